def H_X12_day_163 (N : Nat) : Nat → Int32 → aSt → Option (Int32 × aSt)
  | 0, _, _ => none
  | n + 1, x1, σ => if 6 ≤ x1 then lt (aWI σ 235 52 ((aI σ 235 52) + 1)) fun σ2 => some (aI σ2 235 52, σ2) else cO (¬ (x1 < 0 ∨ 6 ≤ x1.toNatClampNeg)) (lt (aWI σ 272 x1.toNatClampNeg 0) fun σ6 => cO (¬ (x1 < 0 ∨ 6 ≤ x1.toNatClampNeg)) (lt (aWI σ6 273 x1.toNatClampNeg 0) fun σ10 => (H_X12_day_163 N n) (x1 + 1) σ10))
set_option maxRecDepth 20000 in
set_option maxHeartbeats 4000000 in
theorem TH_X12_day_163 (xs : Nat → Int32) (L : Nat) (N : Nat) : ∀ (n : Nat) (x1 : Int32) (d2 : Value) (d3 : Value) (σ : aSt) (q : Int32 × aSt), H_X12_day_163 N n x1 σ = some q → Gr σ → Ev xs L 161 163 [.ref 235, .int x1, d2, d3] [] σ (wI q.1) q.2 ∧ Gr q.2 := by
  intro n
  induction n with
  | zero =>
    intro x1 d2 d3 σ q h hG
    exact absurd (show (none : Option (Int32 × aSt)) = some q from h) (by simp)
  | succ n ih =>
    intro x1 d2 d3 σ q h hG
    have hk163 : ∀ (x1 : Int32) (d2 : Value) (d3 : Value) (σ : aSt) (q : Int32 × aSt), H_X12_day_163 N n x1 σ = some q → Gr σ → Ev xs L 161 163 [.ref 235, .int x1, d2, d3] [] σ (wI q.1) q.2 ∧ Gr q.2 := ih
    have h : (if 6 ≤ x1 then lt (aWI σ 235 52 ((aI σ 235 52) + 1)) fun σ2 => some (aI σ2 235 52, σ2) else cO (¬ (x1 < 0 ∨ 6 ≤ x1.toNatClampNeg)) (lt (aWI σ 272 x1.toNatClampNeg 0) fun σ6 => cO (¬ (x1 < 0 ∨ 6 ≤ x1.toNatClampNeg)) (lt (aWI σ6 273 x1.toNatClampNeg 0) fun σ10 => (H_X12_day_163 N n) (x1 + 1) σ10))) = some q := h
    refine ev_a (fun he => ev_iload rfl rfl he) ?_
    refine ev_a (fun he => ev_push rfl he) ?_
    refine ev_b (c := 6 ≤ x1) (fun ht hf => ev_cge rfl ht hf) (fun hc1 => ?_) (fun hc1 => ?_)
    · rw [if_pos hc1] at h
      refine ev_a (fun he => ev_aload rfl rfl he) ?_
      refine ev_a (fun he => ev_dupR rfl he) ?_
      refine ev_a (fun he => ev_getI rfl (gr_ob (n := 80) hG rfl) he) ?_
      refine ev_a (fun he => ev_push rfl he) ?_
      refine ev_a (fun he => ev_bin (z := (aI σ 235 52) + 1) rfl rfl he) ?_
      obtain ⟨σ2, e3, h⟩ := lt_inv h
      have hG4 : Gr σ2 := gr_wi e3 hG
      refine ev_a (fun he => ev_putI rfl (gr_ob (n := 80) hG rfl) e3 he) ?_
      refine ev_a (fun he => ev_aload rfl rfl he) ?_
      refine ev_a (fun he => ev_getI rfl (gr_ob (n := 80) hG4 rfl) he) ?_
      cases h
      exact ⟨ev_retI rfl, hG4⟩
    · rw [if_neg hc1] at h
      refine ev_a (fun he => ev_aload rfl rfl he) ?_
      refine ev_a (fun he => ev_getR rfl (gr_ob (n := 80) hG rfl) (gr_p (a := 235) (k := 55) (b := 272) hG rfl) he) ?_
      refine ev_a (fun he => ev_iload rfl rfl he) ?_
      refine ev_a (fun he => ev_push rfl he) ?_
      obtain ⟨hc5, h⟩ := cO_inv h
      obtain ⟨σ6, e7, h⟩ := lt_inv h
      have hG8 : Gr σ6 := gr_wi e7 hG
      refine ev_a (fun he => ev_astI (k := x1.toNatClampNeg) rfl (gr_ar hG rfl) hc5 rfl rfl e7 he) ?_
      refine ev_a (fun he => ev_aload rfl rfl he) ?_
      refine ev_a (fun he => ev_getR rfl (gr_ob (n := 80) hG8 rfl) (gr_p (a := 235) (k := 56) (b := 273) hG8 rfl) he) ?_
      refine ev_a (fun he => ev_iload rfl rfl he) ?_
      refine ev_a (fun he => ev_push rfl he) ?_
      obtain ⟨hc9, h⟩ := cO_inv h
      obtain ⟨σ10, e11, h⟩ := lt_inv h
      have hG12 : Gr σ10 := gr_wi e11 hG8
      refine ev_a (fun he => ev_astI (k := x1.toNatClampNeg) rfl (gr_ar hG8 rfl) hc9 rfl rfl e11 he) ?_
      refine ev_a (fun he => ev_iinc (ls' := [.ref 235, .int (x1 + 1), d2, d3]) rfl rfl rfl (Nat.le_of_ble_eq_true rfl) rfl he) ?_
      refine ev_a (fun he => ev_goto rfl he) ?_
      exact hk163 (x1 + 1) (d2) (d3) σ10 q h hG12
def H_X12_day_142 (N : Nat) : Nat → Int32 → aSt → Option (Int32 × aSt)
  | 0, _, _ => none
  | n + 1, x1, σ => if 36 ≤ x1 then H_X12_day_163 N N 0 σ else cO (¬ (x1 < 0 ∨ 36 ≤ x1.toNatClampNeg)) (lt (aWI σ 271 x1.toNatClampNeg 0) fun σ15 => (H_X12_day_142 N n) (x1 + 1) σ15)
set_option maxRecDepth 20000 in
set_option maxHeartbeats 4000000 in
theorem TH_X12_day_142 (xs : Nat → Int32) (L : Nat) (N : Nat) : ∀ (n : Nat) (x1 : Int32) (d2 : Value) (d3 : Value) (σ : aSt) (q : Int32 × aSt), H_X12_day_142 N n x1 σ = some q → Gr σ → Ev xs L 161 142 [.ref 235, .int x1, d2, d3] [] σ (wI q.1) q.2 ∧ Gr q.2 := by
  intro n
  induction n with
  | zero =>
    intro x1 d2 d3 σ q h hG
    exact absurd (show (none : Option (Int32 × aSt)) = some q from h) (by simp)
  | succ n ih =>
    intro x1 d2 d3 σ q h hG
    have hk142 : ∀ (x1 : Int32) (d2 : Value) (d3 : Value) (σ : aSt) (q : Int32 × aSt), H_X12_day_142 N n x1 σ = some q → Gr σ → Ev xs L 161 142 [.ref 235, .int x1, d2, d3] [] σ (wI q.1) q.2 ∧ Gr q.2 := ih
    have h : (if 36 ≤ x1 then H_X12_day_163 N N 0 σ else cO (¬ (x1 < 0 ∨ 36 ≤ x1.toNatClampNeg)) (lt (aWI σ 271 x1.toNatClampNeg 0) fun σ15 => (H_X12_day_142 N n) (x1 + 1) σ15)) = some q := h
    refine ev_a (fun he => ev_iload rfl rfl he) ?_
    refine ev_a (fun he => ev_push rfl he) ?_
    refine ev_b (c := 36 ≤ x1) (fun ht hf => ev_cge rfl ht hf) (fun hc13 => ?_) (fun hc13 => ?_)
    · rw [if_pos hc13] at h
      refine ev_a (fun he => ev_push rfl he) ?_
      refine ev_a (fun he => ev_istore (ls' := [.ref 235, .int 0, d2, d3]) rfl (Nat.le_of_ble_eq_true rfl) rfl he) ?_
      exact TH_X12_day_163 xs L N N 0 (d2) (d3) σ q h hG
    · rw [if_neg hc13] at h
      refine ev_a (fun he => ev_aload rfl rfl he) ?_
      refine ev_a (fun he => ev_getR rfl (gr_ob (n := 80) hG rfl) (gr_p (a := 235) (k := 54) (b := 271) hG rfl) he) ?_
      refine ev_a (fun he => ev_iload rfl rfl he) ?_
      refine ev_a (fun he => ev_push rfl he) ?_
      obtain ⟨hc14, h⟩ := cO_inv h
      obtain ⟨σ15, e16, h⟩ := lt_inv h
      have hG17 : Gr σ15 := gr_wi e16 hG
      refine ev_a (fun he => ev_astI (k := x1.toNatClampNeg) rfl (gr_ar hG rfl) hc14 rfl rfl e16 he) ?_
      refine ev_a (fun he => ev_iinc (ls' := [.ref 235, .int (x1 + 1), d2, d3]) rfl rfl rfl (Nat.le_of_ble_eq_true rfl) rfl he) ?_
      refine ev_a (fun he => ev_goto rfl he) ?_
      exact hk142 (x1 + 1) (d2) (d3) σ15 q h hG17
def J_X12_day_124 (N : Nat) (k11 : Int32 → aSt → Option (Int32 × aSt)) (x1 : Int32) (σ : aSt) : Option (Int32 × aSt) := k11 (x1 + 1) σ
set_option maxRecDepth 20000 in
set_option maxHeartbeats 4000000 in
theorem TJ_X12_day_124 (xs : Nat → Int32) (L : Nat) (N : Nat) (k11 : Int32 → aSt → Option (Int32 × aSt)) (hk11 : ∀ (x1 : Int32) (d2 : Value) (d3 : Value) (σ : aSt) (q : Int32 × aSt), k11 x1 σ = some q → Gr σ → Ev xs L 161 11 [.ref 235, .int x1, d2, d3] [] σ (wI q.1) q.2 ∧ Gr q.2) (x1 : Int32) (d2 : Value) (d3 : Value) (σ : aSt) (q : Int32 × aSt) (h : J_X12_day_124 N k11 x1 σ = some q) (hG : Gr σ) : Ev xs L 161 124 [.ref 235, .int x1, d2, d3] [] σ (wI q.1) q.2 ∧ Gr q.2 := by
  have h : (k11 (x1 + 1) σ) = some q := h
  refine ev_a (fun he => ev_iinc (ls' := [.ref 235, .int (x1 + 1), d2, d3]) rfl rfl rfl (Nat.le_of_ble_eq_true rfl) rfl he) ?_
  refine ev_a (fun he => ev_goto rfl he) ?_
  exact hk11 (x1 + 1) (d2) (d3) σ q h hG
def J_X12_day_101 (N : Nat) (k11 : Int32 → aSt → Option (Int32 × aSt)) (k21 : Int32 → Int32 → Int32 → aSt → Option (Int32 × aSt)) (x1 : Int32) (x2 : Int32) (x3 : Int32) (σ : aSt) : Option (Int32 × aSt) := k21 x1 x2 (x3 + 1) σ
set_option maxRecDepth 20000 in
set_option maxHeartbeats 4000000 in
theorem TJ_X12_day_101 (xs : Nat → Int32) (L : Nat) (N : Nat) (k11 : Int32 → aSt → Option (Int32 × aSt)) (k21 : Int32 → Int32 → Int32 → aSt → Option (Int32 × aSt)) (hk11 : ∀ (x1 : Int32) (d2 : Value) (d3 : Value) (σ : aSt) (q : Int32 × aSt), k11 x1 σ = some q → Gr σ → Ev xs L 161 11 [.ref 235, .int x1, d2, d3] [] σ (wI q.1) q.2 ∧ Gr q.2) (hk21 : ∀ (x1 : Int32) (x2 : Int32) (x3 : Int32) (σ : aSt) (q : Int32 × aSt), k21 x1 x2 x3 σ = some q → Gr σ → Ev xs L 161 21 [.ref 235, .int x1, .int x2, .int x3] [] σ (wI q.1) q.2 ∧ Gr q.2) (x1 : Int32) (x2 : Int32) (x3 : Int32) (σ : aSt) (q : Int32 × aSt) (h : J_X12_day_101 N k11 k21 x1 x2 x3 σ = some q) (hG : Gr σ) : Ev xs L 161 101 [.ref 235, .int x1, .int x2, .int x3] [] σ (wI q.1) q.2 ∧ Gr q.2 := by
  have h : (k21 x1 x2 (x3 + 1) σ) = some q := h
  refine ev_a (fun he => ev_iinc (ls' := [.ref 235, .int x1, .int x2, .int (x3 + 1)]) rfl rfl rfl (Nat.le_of_ble_eq_true rfl) rfl he) ?_
  refine ev_a (fun he => ev_goto rfl he) ?_
  exact hk21 x1 x2 (x3 + 1) σ q h hG
def J_X12_day_99 (N : Nat) (k11 : Int32 → aSt → Option (Int32 × aSt)) (k21 : Int32 → Int32 → Int32 → aSt → Option (Int32 × aSt)) (x1 : Int32) (x3 : Int32) (σ : aSt) : Option (Int32 × aSt) := J_X12_day_101 N k11 k21 x1 x3 x3 σ
set_option maxRecDepth 20000 in
set_option maxHeartbeats 4000000 in
theorem TJ_X12_day_99 (xs : Nat → Int32) (L : Nat) (N : Nat) (k11 : Int32 → aSt → Option (Int32 × aSt)) (k21 : Int32 → Int32 → Int32 → aSt → Option (Int32 × aSt)) (hk11 : ∀ (x1 : Int32) (d2 : Value) (d3 : Value) (σ : aSt) (q : Int32 × aSt), k11 x1 σ = some q → Gr σ → Ev xs L 161 11 [.ref 235, .int x1, d2, d3] [] σ (wI q.1) q.2 ∧ Gr q.2) (hk21 : ∀ (x1 : Int32) (x2 : Int32) (x3 : Int32) (σ : aSt) (q : Int32 × aSt), k21 x1 x2 x3 σ = some q → Gr σ → Ev xs L 161 21 [.ref 235, .int x1, .int x2, .int x3] [] σ (wI q.1) q.2 ∧ Gr q.2) (x1 : Int32) (x3 : Int32) (d2 : Value) (σ : aSt) (q : Int32 × aSt) (h : J_X12_day_99 N k11 k21 x1 x3 σ = some q) (hG : Gr σ) : Ev xs L 161 99 [.ref 235, .int x1, d2, .int x3] [] σ (wI q.1) q.2 ∧ Gr q.2 := by
  have h : (J_X12_day_101 N k11 k21 x1 x3 x3 σ) = some q := h
  refine ev_a (fun he => ev_iload rfl rfl he) ?_
  refine ev_a (fun he => ev_istore (ls' := [.ref 235, .int x1, .int x3, .int x3]) rfl (Nat.le_of_ble_eq_true rfl) rfl he) ?_
  exact TJ_X12_day_101 xs L N k11 k21 hk11 hk21 x1 x3 x3 σ q h hG
def H_X12_day_21 (N : Nat) (k11 : Int32 → aSt → Option (Int32 × aSt)) : Nat → Int32 → Int32 → Int32 → aSt → Option (Int32 × aSt)
  | 0, _, _, _, _ => none
  | n + 1, x1, x2, x3, σ => if (aI σ 235 37) ≤ x3 then if x2 = ((-1)) then J_X12_day_124 N k11 x1 σ else cO (¬ (x2 < 0 ∨ 24 ≤ x2.toNatClampNeg)) (cO (¬ (x1 < 0 ∨ 6 ≤ x1.toNatClampNeg)) (lt (aWI σ 267 x1.toNatClampNeg (aI σ 288 x2.toNatClampNeg)) fun σ22 => J_X12_day_124 N k11 x1 σ22)) else cO (¬ (x3 < 0 ∨ 24 ≤ x3.toNatClampNeg)) (if (aI σ 260 x3.toNatClampNeg) ≠ x1 then J_X12_day_101 N k11 (H_X12_day_21 N k11 n) x1 x2 x3 σ else cO (¬ (x3 < 0 ∨ 24 ≤ x3.toNatClampNeg)) (if (aI σ 287 x3.toNatClampNeg) = ((-1)) then J_X12_day_101 N k11 (H_X12_day_21 N k11 n) x1 x2 x3 σ else if x2 = ((-1)) then J_X12_day_99 N k11 (H_X12_day_21 N k11 n) x1 x3 σ else cO (¬ (x3 < 0 ∨ 24 ≤ x3.toNatClampNeg)) (cO (¬ (x2 < 0 ∨ 24 ≤ x2.toNatClampNeg)) (if (aI σ 289 x2.toNatClampNeg) < (aI σ 289 x3.toNatClampNeg) then J_X12_day_99 N k11 (H_X12_day_21 N k11 n) x1 x3 σ else cO (¬ (x3 < 0 ∨ 24 ≤ x3.toNatClampNeg)) (cO (¬ (x2 < 0 ∨ 24 ≤ x2.toNatClampNeg)) (if (aI σ 289 x3.toNatClampNeg) ≠ (aI σ 289 x2.toNatClampNeg) then J_X12_day_101 N k11 (H_X12_day_21 N k11 n) x1 x2 x3 σ else cO (¬ (x3 < 0 ∨ 24 ≤ x3.toNatClampNeg)) (cO (¬ (x2 < 0 ∨ 24 ≤ x2.toNatClampNeg)) (if (aI σ 290 x2.toNatClampNeg) ≤ (aI σ 290 x3.toNatClampNeg) then J_X12_day_101 N k11 (H_X12_day_21 N k11 n) x1 x2 x3 σ else J_X12_day_99 N k11 (H_X12_day_21 N k11 n) x1 x3 σ))))))))
set_option maxRecDepth 20000 in
set_option maxHeartbeats 4000000 in
theorem TH_X12_day_21 (xs : Nat → Int32) (L : Nat) (N : Nat) (k11 : Int32 → aSt → Option (Int32 × aSt)) (hk11 : ∀ (x1 : Int32) (d2 : Value) (d3 : Value) (σ : aSt) (q : Int32 × aSt), k11 x1 σ = some q → Gr σ → Ev xs L 161 11 [.ref 235, .int x1, d2, d3] [] σ (wI q.1) q.2 ∧ Gr q.2) : ∀ (n : Nat) (x1 : Int32) (x2 : Int32) (x3 : Int32) (σ : aSt) (q : Int32 × aSt), H_X12_day_21 N k11 n x1 x2 x3 σ = some q → Gr σ → Ev xs L 161 21 [.ref 235, .int x1, .int x2, .int x3] [] σ (wI q.1) q.2 ∧ Gr q.2 := by
  intro n
  induction n with
  | zero =>
    intro x1 x2 x3 σ q h hG
    exact absurd (show (none : Option (Int32 × aSt)) = some q from h) (by simp)
  | succ n ih =>
    intro x1 x2 x3 σ q h hG
    have hk21 : ∀ (x1 : Int32) (x2 : Int32) (x3 : Int32) (σ : aSt) (q : Int32 × aSt), H_X12_day_21 N k11 n x1 x2 x3 σ = some q → Gr σ → Ev xs L 161 21 [.ref 235, .int x1, .int x2, .int x3] [] σ (wI q.1) q.2 ∧ Gr q.2 := ih
    have h : (if (aI σ 235 37) ≤ x3 then if x2 = ((-1)) then J_X12_day_124 N k11 x1 σ else cO (¬ (x2 < 0 ∨ 24 ≤ x2.toNatClampNeg)) (cO (¬ (x1 < 0 ∨ 6 ≤ x1.toNatClampNeg)) (lt (aWI σ 267 x1.toNatClampNeg (aI σ 288 x2.toNatClampNeg)) fun σ22 => J_X12_day_124 N k11 x1 σ22)) else cO (¬ (x3 < 0 ∨ 24 ≤ x3.toNatClampNeg)) (if (aI σ 260 x3.toNatClampNeg) ≠ x1 then J_X12_day_101 N k11 (H_X12_day_21 N k11 n) x1 x2 x3 σ else cO (¬ (x3 < 0 ∨ 24 ≤ x3.toNatClampNeg)) (if (aI σ 287 x3.toNatClampNeg) = ((-1)) then J_X12_day_101 N k11 (H_X12_day_21 N k11 n) x1 x2 x3 σ else if x2 = ((-1)) then J_X12_day_99 N k11 (H_X12_day_21 N k11 n) x1 x3 σ else cO (¬ (x3 < 0 ∨ 24 ≤ x3.toNatClampNeg)) (cO (¬ (x2 < 0 ∨ 24 ≤ x2.toNatClampNeg)) (if (aI σ 289 x2.toNatClampNeg) < (aI σ 289 x3.toNatClampNeg) then J_X12_day_99 N k11 (H_X12_day_21 N k11 n) x1 x3 σ else cO (¬ (x3 < 0 ∨ 24 ≤ x3.toNatClampNeg)) (cO (¬ (x2 < 0 ∨ 24 ≤ x2.toNatClampNeg)) (if (aI σ 289 x3.toNatClampNeg) ≠ (aI σ 289 x2.toNatClampNeg) then J_X12_day_101 N k11 (H_X12_day_21 N k11 n) x1 x2 x3 σ else cO (¬ (x3 < 0 ∨ 24 ≤ x3.toNatClampNeg)) (cO (¬ (x2 < 0 ∨ 24 ≤ x2.toNatClampNeg)) (if (aI σ 290 x2.toNatClampNeg) ≤ (aI σ 290 x3.toNatClampNeg) then J_X12_day_101 N k11 (H_X12_day_21 N k11 n) x1 x2 x3 σ else J_X12_day_99 N k11 (H_X12_day_21 N k11 n) x1 x3 σ))))))))) = some q := h
    refine ev_a (fun he => ev_iload rfl rfl he) ?_
    refine ev_a (fun he => ev_aload rfl rfl he) ?_
    refine ev_a (fun he => ev_getI rfl (gr_ob (n := 80) hG rfl) he) ?_
    refine ev_b (c := (aI σ 235 37) ≤ x3) (fun ht hf => ev_cge rfl ht hf) (fun hc18 => ?_) (fun hc18 => ?_)
    · rw [if_pos hc18] at h
      refine ev_a (fun he => ev_iload rfl rfl he) ?_
      refine ev_a (fun he => ev_push rfl he) ?_
      refine ev_b (c := x2 = ((-1))) (fun ht hf => ev_ceq rfl ht hf) (fun hc19 => ?_) (fun hc19 => ?_)
      · rw [if_pos hc19] at h
        exact TJ_X12_day_124 xs L N k11 hk11 x1 (.int x2) (.int x3) σ q h hG
      · rw [if_neg hc19] at h
        refine ev_a (fun he => ev_aload rfl rfl he) ?_
        refine ev_a (fun he => ev_getR rfl (gr_ob (n := 80) hG rfl) (gr_p (a := 235) (k := 47) (b := 267) hG rfl) he) ?_
        refine ev_a (fun he => ev_iload rfl rfl he) ?_
        refine ev_a (fun he => ev_aload rfl rfl he) ?_
        refine ev_a (fun he => ev_getR rfl (gr_ob (n := 80) hG rfl) (gr_p (a := 235) (k := 71) (b := 288) hG rfl) he) ?_
        refine ev_a (fun he => ev_iload rfl rfl he) ?_
        obtain ⟨hc20, h⟩ := cO_inv h
        refine ev_a (fun he => ev_aldI (k := x2.toNatClampNeg) rfl (gr_ar hG rfl) hc20 rfl he) ?_
        obtain ⟨hc21, h⟩ := cO_inv h
        obtain ⟨σ22, e23, h⟩ := lt_inv h
        have hG24 : Gr σ22 := gr_wi e23 hG
        refine ev_a (fun he => ev_astI (k := x1.toNatClampNeg) rfl (gr_ar hG rfl) hc21 rfl rfl e23 he) ?_
        exact TJ_X12_day_124 xs L N k11 hk11 x1 (.int x2) (.int x3) σ22 q h hG24
    · rw [if_neg hc18] at h
      refine ev_a (fun he => ev_aload rfl rfl he) ?_
      refine ev_a (fun he => ev_getR rfl (gr_ob (n := 80) hG rfl) (gr_p (a := 235) (k := 39) (b := 260) hG rfl) he) ?_
      refine ev_a (fun he => ev_iload rfl rfl he) ?_
      obtain ⟨hc25, h⟩ := cO_inv h
      refine ev_a (fun he => ev_aldI (k := x3.toNatClampNeg) rfl (gr_ar hG rfl) hc25 rfl he) ?_
      refine ev_a (fun he => ev_iload rfl rfl he) ?_
      refine ev_b (c := (aI σ 260 x3.toNatClampNeg) ≠ x1) (fun ht hf => ev_cne rfl ht hf) (fun hc26 => ?_) (fun hc26 => ?_)
      · rw [if_pos hc26] at h
        exact TJ_X12_day_101 xs L N k11 (H_X12_day_21 N k11 n) hk11 hk21 x1 x2 x3 σ q h hG
      · rw [if_neg hc26] at h
        refine ev_a (fun he => ev_aload rfl rfl he) ?_
        refine ev_a (fun he => ev_getR rfl (gr_ob (n := 80) hG rfl) (gr_p (a := 235) (k := 70) (b := 287) hG rfl) he) ?_
        refine ev_a (fun he => ev_iload rfl rfl he) ?_
        obtain ⟨hc27, h⟩ := cO_inv h
        refine ev_a (fun he => ev_aldI (k := x3.toNatClampNeg) rfl (gr_ar hG rfl) hc27 rfl he) ?_
        refine ev_a (fun he => ev_push rfl he) ?_
        refine ev_b (c := (aI σ 287 x3.toNatClampNeg) = ((-1))) (fun ht hf => ev_ceq rfl ht hf) (fun hc28 => ?_) (fun hc28 => ?_)
        · rw [if_pos hc28] at h
          exact TJ_X12_day_101 xs L N k11 (H_X12_day_21 N k11 n) hk11 hk21 x1 x2 x3 σ q h hG
        · rw [if_neg hc28] at h
          refine ev_a (fun he => ev_iload rfl rfl he) ?_
          refine ev_a (fun he => ev_push rfl he) ?_
          refine ev_b (c := x2 = ((-1))) (fun ht hf => ev_ceq rfl ht hf) (fun hc29 => ?_) (fun hc29 => ?_)
          · rw [if_pos hc29] at h
            exact TJ_X12_day_99 xs L N k11 (H_X12_day_21 N k11 n) hk11 hk21 x1 x3 (.int x2) σ q h hG
          · rw [if_neg hc29] at h
            refine ev_a (fun he => ev_aload rfl rfl he) ?_
            refine ev_a (fun he => ev_getR rfl (gr_ob (n := 80) hG rfl) (gr_p (a := 235) (k := 72) (b := 289) hG rfl) he) ?_
            refine ev_a (fun he => ev_iload rfl rfl he) ?_
            obtain ⟨hc30, h⟩ := cO_inv h
            refine ev_a (fun he => ev_aldI (k := x3.toNatClampNeg) rfl (gr_ar hG rfl) hc30 rfl he) ?_
            refine ev_a (fun he => ev_aload rfl rfl he) ?_
            refine ev_a (fun he => ev_getR rfl (gr_ob (n := 80) hG rfl) (gr_p (a := 235) (k := 72) (b := 289) hG rfl) he) ?_
            refine ev_a (fun he => ev_iload rfl rfl he) ?_
            obtain ⟨hc31, h⟩ := cO_inv h
            refine ev_a (fun he => ev_aldI (k := x2.toNatClampNeg) rfl (gr_ar hG rfl) hc31 rfl he) ?_
            refine ev_b (c := (aI σ 289 x2.toNatClampNeg) < (aI σ 289 x3.toNatClampNeg)) (fun ht hf => ev_cgt rfl ht hf) (fun hc32 => ?_) (fun hc32 => ?_)
            · rw [if_pos hc32] at h
              exact TJ_X12_day_99 xs L N k11 (H_X12_day_21 N k11 n) hk11 hk21 x1 x3 (.int x2) σ q h hG
            · rw [if_neg hc32] at h
              refine ev_a (fun he => ev_aload rfl rfl he) ?_
              refine ev_a (fun he => ev_getR rfl (gr_ob (n := 80) hG rfl) (gr_p (a := 235) (k := 72) (b := 289) hG rfl) he) ?_
              refine ev_a (fun he => ev_iload rfl rfl he) ?_
              obtain ⟨hc33, h⟩ := cO_inv h
              refine ev_a (fun he => ev_aldI (k := x3.toNatClampNeg) rfl (gr_ar hG rfl) hc33 rfl he) ?_
              refine ev_a (fun he => ev_aload rfl rfl he) ?_
              refine ev_a (fun he => ev_getR rfl (gr_ob (n := 80) hG rfl) (gr_p (a := 235) (k := 72) (b := 289) hG rfl) he) ?_
              refine ev_a (fun he => ev_iload rfl rfl he) ?_
              obtain ⟨hc34, h⟩ := cO_inv h
              refine ev_a (fun he => ev_aldI (k := x2.toNatClampNeg) rfl (gr_ar hG rfl) hc34 rfl he) ?_
              refine ev_b (c := (aI σ 289 x3.toNatClampNeg) ≠ (aI σ 289 x2.toNatClampNeg)) (fun ht hf => ev_cne rfl ht hf) (fun hc35 => ?_) (fun hc35 => ?_)
              · rw [if_pos hc35] at h
                exact TJ_X12_day_101 xs L N k11 (H_X12_day_21 N k11 n) hk11 hk21 x1 x2 x3 σ q h hG
              · rw [if_neg hc35] at h
                refine ev_a (fun he => ev_aload rfl rfl he) ?_
                refine ev_a (fun he => ev_getR rfl (gr_ob (n := 80) hG rfl) (gr_p (a := 235) (k := 73) (b := 290) hG rfl) he) ?_
                refine ev_a (fun he => ev_iload rfl rfl he) ?_
                obtain ⟨hc36, h⟩ := cO_inv h
                refine ev_a (fun he => ev_aldI (k := x3.toNatClampNeg) rfl (gr_ar hG rfl) hc36 rfl he) ?_
                refine ev_a (fun he => ev_aload rfl rfl he) ?_
                refine ev_a (fun he => ev_getR rfl (gr_ob (n := 80) hG rfl) (gr_p (a := 235) (k := 73) (b := 290) hG rfl) he) ?_
                refine ev_a (fun he => ev_iload rfl rfl he) ?_
                obtain ⟨hc37, h⟩ := cO_inv h
                refine ev_a (fun he => ev_aldI (k := x2.toNatClampNeg) rfl (gr_ar hG rfl) hc37 rfl he) ?_
                refine ev_b (c := (aI σ 290 x2.toNatClampNeg) ≤ (aI σ 290 x3.toNatClampNeg)) (fun ht hf => ev_cge rfl ht hf) (fun hc38 => ?_) (fun hc38 => ?_)
                · rw [if_pos hc38] at h
                  exact TJ_X12_day_101 xs L N k11 (H_X12_day_21 N k11 n) hk11 hk21 x1 x2 x3 σ q h hG
                · rw [if_neg hc38] at h
                  exact TJ_X12_day_99 xs L N k11 (H_X12_day_21 N k11 n) hk11 hk21 x1 x3 (.int x2) σ q h hG
def H_X12_day_11 (N : Nat) : Nat → Int32 → aSt → Option (Int32 × aSt)
  | 0, _, _ => none
  | n + 1, x1, σ => if 6 ≤ x1 then lt (aWI σ 235 37 0) fun σ40 => lt (aWI σ40 235 53 0) fun σ43 => H_X12_day_142 N N 0 σ43 else H_X12_day_21 N (H_X12_day_11 N n) N x1 ((-1)) 0 σ
set_option maxRecDepth 20000 in
set_option maxHeartbeats 4000000 in
theorem TH_X12_day_11 (xs : Nat → Int32) (L : Nat) (N : Nat) : ∀ (n : Nat) (x1 : Int32) (d2 : Value) (d3 : Value) (σ : aSt) (q : Int32 × aSt), H_X12_day_11 N n x1 σ = some q → Gr σ → Ev xs L 161 11 [.ref 235, .int x1, d2, d3] [] σ (wI q.1) q.2 ∧ Gr q.2 := by
  intro n
  induction n with
  | zero =>
    intro x1 d2 d3 σ q h hG
    exact absurd (show (none : Option (Int32 × aSt)) = some q from h) (by simp)
  | succ n ih =>
    intro x1 d2 d3 σ q h hG
    have hk11 : ∀ (x1 : Int32) (d2 : Value) (d3 : Value) (σ : aSt) (q : Int32 × aSt), H_X12_day_11 N n x1 σ = some q → Gr σ → Ev xs L 161 11 [.ref 235, .int x1, d2, d3] [] σ (wI q.1) q.2 ∧ Gr q.2 := ih
    have h : (if 6 ≤ x1 then lt (aWI σ 235 37 0) fun σ40 => lt (aWI σ40 235 53 0) fun σ43 => H_X12_day_142 N N 0 σ43 else H_X12_day_21 N (H_X12_day_11 N n) N x1 ((-1)) 0 σ) = some q := h
    refine ev_a (fun he => ev_iload rfl rfl he) ?_
    refine ev_a (fun he => ev_push rfl he) ?_
    refine ev_b (c := 6 ≤ x1) (fun ht hf => ev_cge rfl ht hf) (fun hc39 => ?_) (fun hc39 => ?_)
    · rw [if_pos hc39] at h
      refine ev_a (fun he => ev_aload rfl rfl he) ?_
      refine ev_a (fun he => ev_push rfl he) ?_
      obtain ⟨σ40, e41, h⟩ := lt_inv h
      have hG42 : Gr σ40 := gr_wi e41 hG
      refine ev_a (fun he => ev_putI rfl (gr_ob (n := 80) hG rfl) e41 he) ?_
      refine ev_a (fun he => ev_aload rfl rfl he) ?_
      refine ev_a (fun he => ev_push rfl he) ?_
      obtain ⟨σ43, e44, h⟩ := lt_inv h
      have hG45 : Gr σ43 := gr_wi e44 hG42
      refine ev_a (fun he => ev_putZ rfl (gr_ob (n := 80) hG42 rfl) (Or.inl rfl) e44 he) ?_
      refine ev_a (fun he => ev_push rfl he) ?_
      refine ev_a (fun he => ev_istore (ls' := [.ref 235, .int 0, d2, d3]) rfl (Nat.le_of_ble_eq_true rfl) rfl he) ?_
      exact TH_X12_day_142 xs L N N 0 (d2) (d3) σ43 q h hG45
    · rw [if_neg hc39] at h
      refine ev_a (fun he => ev_push rfl he) ?_
      refine ev_a (fun he => ev_istore (ls' := [.ref 235, .int x1, .int ((-1)), d3]) rfl (Nat.le_of_ble_eq_true rfl) rfl he) ?_
      refine ev_a (fun he => ev_push rfl he) ?_
      refine ev_a (fun he => ev_istore (ls' := [.ref 235, .int x1, .int ((-1)), .int 0]) rfl (Nat.le_of_ble_eq_true rfl) rfl he) ?_
      exact TH_X12_day_21 xs L N (H_X12_day_11 N n) hk11 N x1 ((-1)) 0 σ q h hG
def F_X12_day (N : Nat) (σ : aSt) : Option (Int32 × aSt) := if (aI σ 235 53) ≠ 0 then H_X12_day_11 N N 0 σ else some ((-1), σ)
set_option maxRecDepth 20000 in
set_option maxHeartbeats 4000000 in
theorem T_X12_day (xs : Nat → Int32) (L : Nat) (N : Nat) (σ : aSt) (q : Int32 × aSt) (h : F_X12_day N σ = some q) (hG : Gr σ) : Cal xs L 161 [.ref 235] σ (wI q.1) q.2 ∧ Gr q.2 := by
  have h : (if (aI σ 235 53) ≠ 0 then H_X12_day_11 N N 0 σ else some ((-1), σ)) = some q := h
  show Ev xs L 161 0 [.ref 235, aU, aU, aU] [] σ (wI q.1) q.2 ∧ Gr q.2
  refine ev_a (fun he => ev_aload rfl rfl he) ?_
  refine ev_a (fun he => ev_getI rfl (gr_ob (n := 80) hG rfl) he) ?_
  refine ev_b (c := (aI σ 235 53) ≠ 0) (fun ht hf => ev_ifne rfl ht hf) (fun hc46 => ?_) (fun hc46 => ?_)
  · rw [if_pos hc46] at h
    refine ev_a (fun he => ev_push rfl he) ?_
    refine ev_a (fun he => ev_istore (ls' := [.ref 235, .int 0, aU, aU]) rfl (Nat.le_of_ble_eq_true rfl) rfl he) ?_
    exact TH_X12_day_11 xs L N N 0 (aU) (aU) σ q h hG
  · rw [if_neg hc46] at h
    refine ev_a (fun he => ev_push rfl he) ?_
    cases h
    exact ⟨ev_retI rfl, hG⟩
def J_X12_loads_375 (N : Nat) (k25 : Int32 → aSt → Option (Unit × aSt)) (k283 : Int32 → Int32 → Int32 → aSt → Option (Unit × aSt)) (x1 : Int32) (x2 : Int32) (x3 : Int32) (σ : aSt) : Option (Unit × aSt) := k283 x1 x2 (x3 + 1) σ
set_option maxRecDepth 20000 in
set_option maxHeartbeats 4000000 in
theorem TJ_X12_loads_375 (xs : Nat → Int32) (L : Nat) (N : Nat) (k25 : Int32 → aSt → Option (Unit × aSt)) (k283 : Int32 → Int32 → Int32 → aSt → Option (Unit × aSt)) (hk25 : ∀ (x1 : Int32) (d2 : Value) (d3 : Value) (d4 : Value) (d5 : Value) (σ : aSt) (q : Unit × aSt), k25 x1 σ = some q → Gr σ → Ev xs L 162 25 [.ref 235, .int x1, d2, d3, d4, d5] [] σ (wV q.1) q.2 ∧ Gr q.2) (hk283 : ∀ (x1 : Int32) (x2 : Int32) (x3 : Int32) (d4 : Value) (d5 : Value) (σ : aSt) (q : Unit × aSt), k283 x1 x2 x3 σ = some q → Gr σ → Ev xs L 162 283 [.ref 235, .int x1, .int x2, .int x3, d4, d5] [] σ (wV q.1) q.2 ∧ Gr q.2) (x1 : Int32) (x2 : Int32) (x3 : Int32) (d4 : Value) (d5 : Value) (σ : aSt) (q : Unit × aSt) (h : J_X12_loads_375 N k25 k283 x1 x2 x3 σ = some q) (hG : Gr σ) : Ev xs L 162 375 [.ref 235, .int x1, .int x2, .int x3, d4, d5] [] σ (wV q.1) q.2 ∧ Gr q.2 := by
  have h : (k283 x1 x2 (x3 + 1) σ) = some q := h
  refine ev_a (fun he => ev_iinc (ls' := [.ref 235, .int x1, .int x2, .int (x3 + 1), d4, d5]) rfl rfl rfl (Nat.le_of_ble_eq_true rfl) rfl he) ?_
  refine ev_a (fun he => ev_goto rfl he) ?_
  exact hk283 x1 x2 (x3 + 1) (d4) (d5) σ q h hG
def H_X12_loads_283 (N : Nat) (k25 : Int32 → aSt → Option (Unit × aSt)) : Nat → Int32 → Int32 → Int32 → aSt → Option (Unit × aSt)
  | 0, _, _, _, _ => none
  | n + 1, x1, x2, x3, σ => if (aI σ 235 37) ≤ x3 then k25 (x1 + 1) σ else cO (¬ (x3 < 0 ∨ 24 ≤ x3.toNatClampNeg)) (if (aI σ 296 x3.toNatClampNeg) = 0 then J_X12_loads_375 N k25 (H_X12_loads_283 N k25 n) x1 x2 x3 σ else cO (¬ (x3 < 0 ∨ 24 ≤ x3.toNatClampNeg)) (if x2 < (aI σ 262 x3.toNatClampNeg) then J_X12_loads_375 N k25 (H_X12_loads_283 N k25 n) x1 x2 x3 σ else cO (¬ (x3 < 0 ∨ 24 ≤ x3.toNatClampNeg)) (cO (¬ (x3 < 0 ∨ 24 ≤ x3.toNatClampNeg)) (cO (¬ ((((61 * (x3 + 1)) + x2) - (aI σ 262 x3.toNatClampNeg)) < 0 ∨ 1525 ≤ (((61 * (x3 + 1)) + x2) - (aI σ 262 x3.toNatClampNeg)).toNatClampNeg)) (cO (¬ (((61 * x3) + x2) < 0 ∨ 1525 ≤ ((61 * x3) + x2).toNatClampNeg)) (if (aI σ 295 ((61 * x3) + x2).toNatClampNeg) ≤ (((100 * (aI σ 262 x3.toNatClampNeg)) - 1) + (aI σ 295 (((61 * (x3 + 1)) + x2) - (aI σ 262 x3.toNatClampNeg)).toNatClampNeg)) then cO (¬ (x3 < 0 ∨ 24 ≤ x3.toNatClampNeg)) (lt (aWI σ 294 x3.toNatClampNeg x1) fun σ12 => cO (¬ (x3 < 0 ∨ 24 ≤ x3.toNatClampNeg)) (J_X12_loads_375 N k25 (H_X12_loads_283 N k25 n) x1 (x2 - (aI σ12 262 x3.toNatClampNeg)) x3 σ12)) else J_X12_loads_375 N k25 (H_X12_loads_283 N k25 n) x1 x2 x3 σ))))))
set_option maxRecDepth 20000 in
set_option maxHeartbeats 4000000 in
theorem TH_X12_loads_283 (xs : Nat → Int32) (L : Nat) (N : Nat) (k25 : Int32 → aSt → Option (Unit × aSt)) (hk25 : ∀ (x1 : Int32) (d2 : Value) (d3 : Value) (d4 : Value) (d5 : Value) (σ : aSt) (q : Unit × aSt), k25 x1 σ = some q → Gr σ → Ev xs L 162 25 [.ref 235, .int x1, d2, d3, d4, d5] [] σ (wV q.1) q.2 ∧ Gr q.2) : ∀ (n : Nat) (x1 : Int32) (x2 : Int32) (x3 : Int32) (d4 : Value) (d5 : Value) (σ : aSt) (q : Unit × aSt), H_X12_loads_283 N k25 n x1 x2 x3 σ = some q → Gr σ → Ev xs L 162 283 [.ref 235, .int x1, .int x2, .int x3, d4, d5] [] σ (wV q.1) q.2 ∧ Gr q.2 := by
  intro n
  induction n with
  | zero =>
    intro x1 x2 x3 d4 d5 σ q h hG
    exact absurd (show (none : Option (Unit × aSt)) = some q from h) (by simp)
  | succ n ih =>
    intro x1 x2 x3 d4 d5 σ q h hG
    have hk283 : ∀ (x1 : Int32) (x2 : Int32) (x3 : Int32) (d4 : Value) (d5 : Value) (σ : aSt) (q : Unit × aSt), H_X12_loads_283 N k25 n x1 x2 x3 σ = some q → Gr σ → Ev xs L 162 283 [.ref 235, .int x1, .int x2, .int x3, d4, d5] [] σ (wV q.1) q.2 ∧ Gr q.2 := ih
    have h : (if (aI σ 235 37) ≤ x3 then k25 (x1 + 1) σ else cO (¬ (x3 < 0 ∨ 24 ≤ x3.toNatClampNeg)) (if (aI σ 296 x3.toNatClampNeg) = 0 then J_X12_loads_375 N k25 (H_X12_loads_283 N k25 n) x1 x2 x3 σ else cO (¬ (x3 < 0 ∨ 24 ≤ x3.toNatClampNeg)) (if x2 < (aI σ 262 x3.toNatClampNeg) then J_X12_loads_375 N k25 (H_X12_loads_283 N k25 n) x1 x2 x3 σ else cO (¬ (x3 < 0 ∨ 24 ≤ x3.toNatClampNeg)) (cO (¬ (x3 < 0 ∨ 24 ≤ x3.toNatClampNeg)) (cO (¬ ((((61 * (x3 + 1)) + x2) - (aI σ 262 x3.toNatClampNeg)) < 0 ∨ 1525 ≤ (((61 * (x3 + 1)) + x2) - (aI σ 262 x3.toNatClampNeg)).toNatClampNeg)) (cO (¬ (((61 * x3) + x2) < 0 ∨ 1525 ≤ ((61 * x3) + x2).toNatClampNeg)) (if (aI σ 295 ((61 * x3) + x2).toNatClampNeg) ≤ (((100 * (aI σ 262 x3.toNatClampNeg)) - 1) + (aI σ 295 (((61 * (x3 + 1)) + x2) - (aI σ 262 x3.toNatClampNeg)).toNatClampNeg)) then cO (¬ (x3 < 0 ∨ 24 ≤ x3.toNatClampNeg)) (lt (aWI σ 294 x3.toNatClampNeg x1) fun σ12 => cO (¬ (x3 < 0 ∨ 24 ≤ x3.toNatClampNeg)) (J_X12_loads_375 N k25 (H_X12_loads_283 N k25 n) x1 (x2 - (aI σ12 262 x3.toNatClampNeg)) x3 σ12)) else J_X12_loads_375 N k25 (H_X12_loads_283 N k25 n) x1 x2 x3 σ))))))) = some q := h
    refine ev_a (fun he => ev_iload rfl rfl he) ?_
    refine ev_a (fun he => ev_aload rfl rfl he) ?_
    refine ev_a (fun he => ev_getI rfl (gr_ob (n := 80) hG rfl) he) ?_
    refine ev_b (c := (aI σ 235 37) ≤ x3) (fun ht hf => ev_cge rfl ht hf) (fun hc1 => ?_) (fun hc1 => ?_)
    · rw [if_pos hc1] at h
      refine ev_a (fun he => ev_iinc (ls' := [.ref 235, .int (x1 + 1), .int x2, .int x3, d4, d5]) rfl rfl rfl (Nat.le_of_ble_eq_true rfl) rfl he) ?_
      refine ev_a (fun he => ev_goto rfl he) ?_
      exact hk25 (x1 + 1) (.int x2) (.int x3) (d4) (d5) σ q h hG
    · rw [if_neg hc1] at h
      refine ev_a (fun he => ev_aload rfl rfl he) ?_
      refine ev_a (fun he => ev_getR rfl (gr_ob (n := 80) hG rfl) (gr_p (a := 235) (k := 79) (b := 296) hG rfl) he) ?_
      refine ev_a (fun he => ev_iload rfl rfl he) ?_
      obtain ⟨hc2, h⟩ := cO_inv h
      refine ev_a (fun he => ev_aldI (k := x3.toNatClampNeg) rfl (gr_ar hG rfl) hc2 rfl he) ?_
      refine ev_b (c := (aI σ 296 x3.toNatClampNeg) = 0) (fun ht hf => ev_ifeq rfl ht hf) (fun hc3 => ?_) (fun hc3 => ?_)
      · rw [if_pos hc3] at h
        exact TJ_X12_loads_375 xs L N k25 (H_X12_loads_283 N k25 n) hk25 hk283 x1 x2 x3 (d4) (d5) σ q h hG
      · rw [if_neg hc3] at h
        refine ev_a (fun he => ev_aload rfl rfl he) ?_
        refine ev_a (fun he => ev_getR rfl (gr_ob (n := 80) hG rfl) (gr_p (a := 235) (k := 41) (b := 262) hG rfl) he) ?_
        refine ev_a (fun he => ev_iload rfl rfl he) ?_
        obtain ⟨hc4, h⟩ := cO_inv h
        refine ev_a (fun he => ev_aldI (k := x3.toNatClampNeg) rfl (gr_ar hG rfl) hc4 rfl he) ?_
        refine ev_a (fun he => ev_iload rfl rfl he) ?_
        refine ev_b (c := x2 < (aI σ 262 x3.toNatClampNeg)) (fun ht hf => ev_cgt rfl ht hf) (fun hc5 => ?_) (fun hc5 => ?_)
        · rw [if_pos hc5] at h
          exact TJ_X12_loads_375 xs L N k25 (H_X12_loads_283 N k25 n) hk25 hk283 x1 x2 x3 (d4) (d5) σ q h hG
        · rw [if_neg hc5] at h
          refine ev_a (fun he => ev_push rfl he) ?_
          refine ev_a (fun he => ev_aload rfl rfl he) ?_
          refine ev_a (fun he => ev_getR rfl (gr_ob (n := 80) hG rfl) (gr_p (a := 235) (k := 41) (b := 262) hG rfl) he) ?_
          refine ev_a (fun he => ev_iload rfl rfl he) ?_
          obtain ⟨hc6, h⟩ := cO_inv h
          refine ev_a (fun he => ev_aldI (k := x3.toNatClampNeg) rfl (gr_ar hG rfl) hc6 rfl he) ?_
          refine ev_a (fun he => ev_bin (z := 100 * (aI σ 262 x3.toNatClampNeg)) rfl rfl he) ?_
          refine ev_a (fun he => ev_push rfl he) ?_
          refine ev_a (fun he => ev_bin (z := (100 * (aI σ 262 x3.toNatClampNeg)) - 1) rfl rfl he) ?_
          refine ev_a (fun he => ev_aload rfl rfl he) ?_
          refine ev_a (fun he => ev_getR rfl (gr_ob (n := 80) hG rfl) (gr_p (a := 235) (k := 78) (b := 295) hG rfl) he) ?_
          refine ev_a (fun he => ev_push rfl he) ?_
          refine ev_a (fun he => ev_iload rfl rfl he) ?_
          refine ev_a (fun he => ev_push rfl he) ?_
          refine ev_a (fun he => ev_bin (z := x3 + 1) rfl rfl he) ?_
          refine ev_a (fun he => ev_bin (z := 61 * (x3 + 1)) rfl rfl he) ?_
          refine ev_a (fun he => ev_iload rfl rfl he) ?_
          refine ev_a (fun he => ev_bin (z := (61 * (x3 + 1)) + x2) rfl rfl he) ?_
          refine ev_a (fun he => ev_aload rfl rfl he) ?_
          refine ev_a (fun he => ev_getR rfl (gr_ob (n := 80) hG rfl) (gr_p (a := 235) (k := 41) (b := 262) hG rfl) he) ?_
          refine ev_a (fun he => ev_iload rfl rfl he) ?_
          obtain ⟨hc7, h⟩ := cO_inv h
          refine ev_a (fun he => ev_aldI (k := x3.toNatClampNeg) rfl (gr_ar hG rfl) hc7 rfl he) ?_
          refine ev_a (fun he => ev_bin (z := ((61 * (x3 + 1)) + x2) - (aI σ 262 x3.toNatClampNeg)) rfl rfl he) ?_
          obtain ⟨hc8, h⟩ := cO_inv h
          refine ev_a (fun he => ev_aldI (k := (((61 * (x3 + 1)) + x2) - (aI σ 262 x3.toNatClampNeg)).toNatClampNeg) rfl (gr_ar hG rfl) hc8 rfl he) ?_
          refine ev_a (fun he => ev_bin (z := ((100 * (aI σ 262 x3.toNatClampNeg)) - 1) + (aI σ 295 (((61 * (x3 + 1)) + x2) - (aI σ 262 x3.toNatClampNeg)).toNatClampNeg)) rfl rfl he) ?_
          refine ev_a (fun he => ev_aload rfl rfl he) ?_
          refine ev_a (fun he => ev_getR rfl (gr_ob (n := 80) hG rfl) (gr_p (a := 235) (k := 78) (b := 295) hG rfl) he) ?_
          refine ev_a (fun he => ev_push rfl he) ?_
          refine ev_a (fun he => ev_iload rfl rfl he) ?_
          refine ev_a (fun he => ev_bin (z := 61 * x3) rfl rfl he) ?_
          refine ev_a (fun he => ev_iload rfl rfl he) ?_
          refine ev_a (fun he => ev_bin (z := (61 * x3) + x2) rfl rfl he) ?_
          obtain ⟨hc9, h⟩ := cO_inv h
          refine ev_a (fun he => ev_aldI (k := ((61 * x3) + x2).toNatClampNeg) rfl (gr_ar hG rfl) hc9 rfl he) ?_
          refine ev_b (c := (aI σ 295 ((61 * x3) + x2).toNatClampNeg) ≤ (((100 * (aI σ 262 x3.toNatClampNeg)) - 1) + (aI σ 295 (((61 * (x3 + 1)) + x2) - (aI σ 262 x3.toNatClampNeg)).toNatClampNeg))) (fun ht hf => ev_cge rfl ht hf) (fun hc10 => ?_) (fun hc10 => ?_)
          · rw [if_pos hc10] at h
            refine ev_a (fun he => ev_aload rfl rfl he) ?_
            refine ev_a (fun he => ev_getR rfl (gr_ob (n := 80) hG rfl) (gr_p (a := 235) (k := 77) (b := 294) hG rfl) he) ?_
            refine ev_a (fun he => ev_iload rfl rfl he) ?_
            refine ev_a (fun he => ev_iload rfl rfl he) ?_
            obtain ⟨hc11, h⟩ := cO_inv h
            obtain ⟨σ12, e13, h⟩ := lt_inv h
            have hG14 : Gr σ12 := gr_wi e13 hG
            refine ev_a (fun he => ev_astI (k := x3.toNatClampNeg) rfl (gr_ar hG rfl) hc11 rfl rfl e13 he) ?_
            refine ev_a (fun he => ev_iload rfl rfl he) ?_
            refine ev_a (fun he => ev_aload rfl rfl he) ?_
            refine ev_a (fun he => ev_getR rfl (gr_ob (n := 80) hG14 rfl) (gr_p (a := 235) (k := 41) (b := 262) hG14 rfl) he) ?_
            refine ev_a (fun he => ev_iload rfl rfl he) ?_
            obtain ⟨hc15, h⟩ := cO_inv h
            refine ev_a (fun he => ev_aldI (k := x3.toNatClampNeg) rfl (gr_ar hG14 rfl) hc15 rfl he) ?_
            refine ev_a (fun he => ev_bin (z := x2 - (aI σ12 262 x3.toNatClampNeg)) rfl rfl he) ?_
            refine ev_a (fun he => ev_istore (ls' := [.ref 235, .int x1, .int (x2 - (aI σ12 262 x3.toNatClampNeg)), .int x3, d4, d5]) rfl (Nat.le_of_ble_eq_true rfl) rfl he) ?_
            exact TJ_X12_loads_375 xs L N k25 (H_X12_loads_283 N k25 n) hk25 hk283 x1 (x2 - (aI σ12 262 x3.toNatClampNeg)) x3 (d4) (d5) σ12 q h hG14
          · rw [if_neg hc10] at h
            refine ev_a (fun he => ev_goto rfl he) ?_
            exact TJ_X12_loads_375 xs L N k25 (H_X12_loads_283 N k25 n) hk25 hk283 x1 x2 x3 (d4) (d5) σ q h hG
def J_X12_loads_249 (N : Nat) (k25 : Int32 → aSt → Option (Unit × aSt)) (k158 : Int32 → Int32 → aSt → Option (Unit × aSt)) (k164 : Int32 → Int32 → Int32 → aSt → Option (Unit × aSt)) (x1 : Int32) (x2 : Int32) (x3 : Int32) (x4 : Int32) (σ : aSt) : Option (Unit × aSt) := cO (¬ (((61 * x2) + x3) < 0 ∨ 1525 ≤ ((61 * x2) + x3).toNatClampNeg)) (lt (aWI σ 295 ((61 * x2) + x3).toNatClampNeg x4) fun σ17 => k164 x1 x2 (x3 + 1) σ17)
set_option maxRecDepth 20000 in
set_option maxHeartbeats 4000000 in
theorem TJ_X12_loads_249 (xs : Nat → Int32) (L : Nat) (N : Nat) (k25 : Int32 → aSt → Option (Unit × aSt)) (k158 : Int32 → Int32 → aSt → Option (Unit × aSt)) (k164 : Int32 → Int32 → Int32 → aSt → Option (Unit × aSt)) (hk25 : ∀ (x1 : Int32) (d2 : Value) (d3 : Value) (d4 : Value) (d5 : Value) (σ : aSt) (q : Unit × aSt), k25 x1 σ = some q → Gr σ → Ev xs L 162 25 [.ref 235, .int x1, d2, d3, d4, d5] [] σ (wV q.1) q.2 ∧ Gr q.2) (hk158 : ∀ (x1 : Int32) (x2 : Int32) (d3 : Value) (d4 : Value) (d5 : Value) (σ : aSt) (q : Unit × aSt), k158 x1 x2 σ = some q → Gr σ → Ev xs L 162 158 [.ref 235, .int x1, .int x2, d3, d4, d5] [] σ (wV q.1) q.2 ∧ Gr q.2) (hk164 : ∀ (x1 : Int32) (x2 : Int32) (x3 : Int32) (d4 : Value) (d5 : Value) (σ : aSt) (q : Unit × aSt), k164 x1 x2 x3 σ = some q → Gr σ → Ev xs L 162 164 [.ref 235, .int x1, .int x2, .int x3, d4, d5] [] σ (wV q.1) q.2 ∧ Gr q.2) (x1 : Int32) (x2 : Int32) (x3 : Int32) (x4 : Int32) (d5 : Value) (σ : aSt) (q : Unit × aSt) (h : J_X12_loads_249 N k25 k158 k164 x1 x2 x3 x4 σ = some q) (hG : Gr σ) : Ev xs L 162 249 [.ref 235, .int x1, .int x2, .int x3, .int x4, d5] [] σ (wV q.1) q.2 ∧ Gr q.2 := by
  have h : (cO (¬ (((61 * x2) + x3) < 0 ∨ 1525 ≤ ((61 * x2) + x3).toNatClampNeg)) (lt (aWI σ 295 ((61 * x2) + x3).toNatClampNeg x4) fun σ17 => k164 x1 x2 (x3 + 1) σ17)) = some q := h
  refine ev_a (fun he => ev_aload rfl rfl he) ?_
  refine ev_a (fun he => ev_getR rfl (gr_ob (n := 80) hG rfl) (gr_p (a := 235) (k := 78) (b := 295) hG rfl) he) ?_
  refine ev_a (fun he => ev_push rfl he) ?_
  refine ev_a (fun he => ev_iload rfl rfl he) ?_
  refine ev_a (fun he => ev_bin (z := 61 * x2) rfl rfl he) ?_
  refine ev_a (fun he => ev_iload rfl rfl he) ?_
  refine ev_a (fun he => ev_bin (z := (61 * x2) + x3) rfl rfl he) ?_
  refine ev_a (fun he => ev_iload rfl rfl he) ?_
  obtain ⟨hc16, h⟩ := cO_inv h
  obtain ⟨σ17, e18, h⟩ := lt_inv h
  have hG19 : Gr σ17 := gr_wi e18 hG
  refine ev_a (fun he => ev_astI (k := ((61 * x2) + x3).toNatClampNeg) rfl (gr_ar hG rfl) hc16 rfl rfl e18 he) ?_
  refine ev_a (fun he => ev_iinc (ls' := [.ref 235, .int x1, .int x2, .int (x3 + 1), .int x4, d5]) rfl rfl rfl (Nat.le_of_ble_eq_true rfl) rfl he) ?_
  refine ev_a (fun he => ev_goto rfl he) ?_
  exact hk164 x1 x2 (x3 + 1) (.int x4) (d5) σ17 q h hG19
def H_X12_loads_164 (N : Nat) (k25 : Int32 → aSt → Option (Unit × aSt)) (k158 : Int32 → Int32 → aSt → Option (Unit × aSt)) : Nat → Int32 → Int32 → Int32 → aSt → Option (Unit × aSt)
  | 0, _, _, _, _ => none
  | n + 1, x1, x2, x3, σ => if 61 ≤ x3 then k158 x1 (x2 + (-1)) σ else cO (¬ (((61 * (x2 + 1)) + x3) < 0 ∨ 1525 ≤ ((61 * (x2 + 1)) + x3).toNatClampNeg)) (cO (¬ (x2 < 0 ∨ 24 ≤ x2.toNatClampNeg)) (if (aI σ 296 x2.toNatClampNeg) = 0 then J_X12_loads_249 N k25 k158 (H_X12_loads_164 N k25 k158 n) x1 x2 x3 (aI σ 295 ((61 * (x2 + 1)) + x3).toNatClampNeg) σ else cO (¬ (x2 < 0 ∨ 24 ≤ x2.toNatClampNeg)) (if x3 < (aI σ 262 x2.toNatClampNeg) then J_X12_loads_249 N k25 k158 (H_X12_loads_164 N k25 k158 n) x1 x2 x3 (aI σ 295 ((61 * (x2 + 1)) + x3).toNatClampNeg) σ else cO (¬ (x2 < 0 ∨ 24 ≤ x2.toNatClampNeg)) (cO (¬ (x2 < 0 ∨ 24 ≤ x2.toNatClampNeg)) (cO (¬ ((((61 * (x2 + 1)) + x3) - (aI σ 262 x2.toNatClampNeg)) < 0 ∨ 1525 ≤ (((61 * (x2 + 1)) + x3) - (aI σ 262 x2.toNatClampNeg)).toNatClampNeg)) (if (((100 * (aI σ 262 x2.toNatClampNeg)) - 1) + (aI σ 295 (((61 * (x2 + 1)) + x3) - (aI σ 262 x2.toNatClampNeg)).toNatClampNeg)) ≤ (aI σ 295 ((61 * (x2 + 1)) + x3).toNatClampNeg) then J_X12_loads_249 N k25 k158 (H_X12_loads_164 N k25 k158 n) x1 x2 x3 (aI σ 295 ((61 * (x2 + 1)) + x3).toNatClampNeg) σ else J_X12_loads_249 N k25 k158 (H_X12_loads_164 N k25 k158 n) x1 x2 x3 (((100 * (aI σ 262 x2.toNatClampNeg)) - 1) + (aI σ 295 (((61 * (x2 + 1)) + x3) - (aI σ 262 x2.toNatClampNeg)).toNatClampNeg)) σ))))))
set_option maxRecDepth 20000 in
set_option maxHeartbeats 4000000 in
theorem TH_X12_loads_164 (xs : Nat → Int32) (L : Nat) (N : Nat) (k25 : Int32 → aSt → Option (Unit × aSt)) (k158 : Int32 → Int32 → aSt → Option (Unit × aSt)) (hk25 : ∀ (x1 : Int32) (d2 : Value) (d3 : Value) (d4 : Value) (d5 : Value) (σ : aSt) (q : Unit × aSt), k25 x1 σ = some q → Gr σ → Ev xs L 162 25 [.ref 235, .int x1, d2, d3, d4, d5] [] σ (wV q.1) q.2 ∧ Gr q.2) (hk158 : ∀ (x1 : Int32) (x2 : Int32) (d3 : Value) (d4 : Value) (d5 : Value) (σ : aSt) (q : Unit × aSt), k158 x1 x2 σ = some q → Gr σ → Ev xs L 162 158 [.ref 235, .int x1, .int x2, d3, d4, d5] [] σ (wV q.1) q.2 ∧ Gr q.2) : ∀ (n : Nat) (x1 : Int32) (x2 : Int32) (x3 : Int32) (d4 : Value) (d5 : Value) (σ : aSt) (q : Unit × aSt), H_X12_loads_164 N k25 k158 n x1 x2 x3 σ = some q → Gr σ → Ev xs L 162 164 [.ref 235, .int x1, .int x2, .int x3, d4, d5] [] σ (wV q.1) q.2 ∧ Gr q.2 := by
  intro n
  induction n with
  | zero =>
    intro x1 x2 x3 d4 d5 σ q h hG
    exact absurd (show (none : Option (Unit × aSt)) = some q from h) (by simp)
  | succ n ih =>
    intro x1 x2 x3 d4 d5 σ q h hG
    have hk164 : ∀ (x1 : Int32) (x2 : Int32) (x3 : Int32) (d4 : Value) (d5 : Value) (σ : aSt) (q : Unit × aSt), H_X12_loads_164 N k25 k158 n x1 x2 x3 σ = some q → Gr σ → Ev xs L 162 164 [.ref 235, .int x1, .int x2, .int x3, d4, d5] [] σ (wV q.1) q.2 ∧ Gr q.2 := ih
    have h : (if 61 ≤ x3 then k158 x1 (x2 + (-1)) σ else cO (¬ (((61 * (x2 + 1)) + x3) < 0 ∨ 1525 ≤ ((61 * (x2 + 1)) + x3).toNatClampNeg)) (cO (¬ (x2 < 0 ∨ 24 ≤ x2.toNatClampNeg)) (if (aI σ 296 x2.toNatClampNeg) = 0 then J_X12_loads_249 N k25 k158 (H_X12_loads_164 N k25 k158 n) x1 x2 x3 (aI σ 295 ((61 * (x2 + 1)) + x3).toNatClampNeg) σ else cO (¬ (x2 < 0 ∨ 24 ≤ x2.toNatClampNeg)) (if x3 < (aI σ 262 x2.toNatClampNeg) then J_X12_loads_249 N k25 k158 (H_X12_loads_164 N k25 k158 n) x1 x2 x3 (aI σ 295 ((61 * (x2 + 1)) + x3).toNatClampNeg) σ else cO (¬ (x2 < 0 ∨ 24 ≤ x2.toNatClampNeg)) (cO (¬ (x2 < 0 ∨ 24 ≤ x2.toNatClampNeg)) (cO (¬ ((((61 * (x2 + 1)) + x3) - (aI σ 262 x2.toNatClampNeg)) < 0 ∨ 1525 ≤ (((61 * (x2 + 1)) + x3) - (aI σ 262 x2.toNatClampNeg)).toNatClampNeg)) (if (((100 * (aI σ 262 x2.toNatClampNeg)) - 1) + (aI σ 295 (((61 * (x2 + 1)) + x3) - (aI σ 262 x2.toNatClampNeg)).toNatClampNeg)) ≤ (aI σ 295 ((61 * (x2 + 1)) + x3).toNatClampNeg) then J_X12_loads_249 N k25 k158 (H_X12_loads_164 N k25 k158 n) x1 x2 x3 (aI σ 295 ((61 * (x2 + 1)) + x3).toNatClampNeg) σ else J_X12_loads_249 N k25 k158 (H_X12_loads_164 N k25 k158 n) x1 x2 x3 (((100 * (aI σ 262 x2.toNatClampNeg)) - 1) + (aI σ 295 (((61 * (x2 + 1)) + x3) - (aI σ 262 x2.toNatClampNeg)).toNatClampNeg)) σ))))))) = some q := h
    refine ev_a (fun he => ev_iload rfl rfl he) ?_
    refine ev_a (fun he => ev_push rfl he) ?_
    refine ev_b (c := 61 ≤ x3) (fun ht hf => ev_cge rfl ht hf) (fun hc20 => ?_) (fun hc20 => ?_)
    · rw [if_pos hc20] at h
      refine ev_a (fun he => ev_iinc (ls' := [.ref 235, .int x1, .int (x2 + (-1)), .int x3, d4, d5]) rfl rfl rfl (Nat.le_of_ble_eq_true rfl) rfl he) ?_
      refine ev_a (fun he => ev_goto rfl he) ?_
      exact hk158 x1 (x2 + (-1)) (.int x3) (d4) (d5) σ q h hG
    · rw [if_neg hc20] at h
      refine ev_a (fun he => ev_aload rfl rfl he) ?_
      refine ev_a (fun he => ev_getR rfl (gr_ob (n := 80) hG rfl) (gr_p (a := 235) (k := 78) (b := 295) hG rfl) he) ?_
      refine ev_a (fun he => ev_push rfl he) ?_
      refine ev_a (fun he => ev_iload rfl rfl he) ?_
      refine ev_a (fun he => ev_push rfl he) ?_
      refine ev_a (fun he => ev_bin (z := x2 + 1) rfl rfl he) ?_
      refine ev_a (fun he => ev_bin (z := 61 * (x2 + 1)) rfl rfl he) ?_
      refine ev_a (fun he => ev_iload rfl rfl he) ?_
      refine ev_a (fun he => ev_bin (z := (61 * (x2 + 1)) + x3) rfl rfl he) ?_
      obtain ⟨hc21, h⟩ := cO_inv h
      refine ev_a (fun he => ev_aldI (k := ((61 * (x2 + 1)) + x3).toNatClampNeg) rfl (gr_ar hG rfl) hc21 rfl he) ?_
      refine ev_a (fun he => ev_istore (ls' := [.ref 235, .int x1, .int x2, .int x3, .int (aI σ 295 ((61 * (x2 + 1)) + x3).toNatClampNeg), d5]) rfl (Nat.le_of_ble_eq_true rfl) rfl he) ?_
      refine ev_a (fun he => ev_aload rfl rfl he) ?_
      refine ev_a (fun he => ev_getR rfl (gr_ob (n := 80) hG rfl) (gr_p (a := 235) (k := 79) (b := 296) hG rfl) he) ?_
      refine ev_a (fun he => ev_iload rfl rfl he) ?_
      obtain ⟨hc22, h⟩ := cO_inv h
      refine ev_a (fun he => ev_aldI (k := x2.toNatClampNeg) rfl (gr_ar hG rfl) hc22 rfl he) ?_
      refine ev_b (c := (aI σ 296 x2.toNatClampNeg) = 0) (fun ht hf => ev_ifeq rfl ht hf) (fun hc23 => ?_) (fun hc23 => ?_)
      · rw [if_pos hc23] at h
        exact TJ_X12_loads_249 xs L N k25 k158 (H_X12_loads_164 N k25 k158 n) hk25 hk158 hk164 x1 x2 x3 (aI σ 295 ((61 * (x2 + 1)) + x3).toNatClampNeg) (d5) σ q h hG
      · rw [if_neg hc23] at h
        refine ev_a (fun he => ev_aload rfl rfl he) ?_
        refine ev_a (fun he => ev_getR rfl (gr_ob (n := 80) hG rfl) (gr_p (a := 235) (k := 41) (b := 262) hG rfl) he) ?_
        refine ev_a (fun he => ev_iload rfl rfl he) ?_
        obtain ⟨hc24, h⟩ := cO_inv h
        refine ev_a (fun he => ev_aldI (k := x2.toNatClampNeg) rfl (gr_ar hG rfl) hc24 rfl he) ?_
        refine ev_a (fun he => ev_iload rfl rfl he) ?_
        refine ev_b (c := x3 < (aI σ 262 x2.toNatClampNeg)) (fun ht hf => ev_cgt rfl ht hf) (fun hc25 => ?_) (fun hc25 => ?_)
        · rw [if_pos hc25] at h
          exact TJ_X12_loads_249 xs L N k25 k158 (H_X12_loads_164 N k25 k158 n) hk25 hk158 hk164 x1 x2 x3 (aI σ 295 ((61 * (x2 + 1)) + x3).toNatClampNeg) (d5) σ q h hG
        · rw [if_neg hc25] at h
          refine ev_a (fun he => ev_push rfl he) ?_
          refine ev_a (fun he => ev_aload rfl rfl he) ?_
          refine ev_a (fun he => ev_getR rfl (gr_ob (n := 80) hG rfl) (gr_p (a := 235) (k := 41) (b := 262) hG rfl) he) ?_
          refine ev_a (fun he => ev_iload rfl rfl he) ?_
          obtain ⟨hc26, h⟩ := cO_inv h
          refine ev_a (fun he => ev_aldI (k := x2.toNatClampNeg) rfl (gr_ar hG rfl) hc26 rfl he) ?_
          refine ev_a (fun he => ev_bin (z := 100 * (aI σ 262 x2.toNatClampNeg)) rfl rfl he) ?_
          refine ev_a (fun he => ev_push rfl he) ?_
          refine ev_a (fun he => ev_bin (z := (100 * (aI σ 262 x2.toNatClampNeg)) - 1) rfl rfl he) ?_
          refine ev_a (fun he => ev_aload rfl rfl he) ?_
          refine ev_a (fun he => ev_getR rfl (gr_ob (n := 80) hG rfl) (gr_p (a := 235) (k := 78) (b := 295) hG rfl) he) ?_
          refine ev_a (fun he => ev_push rfl he) ?_
          refine ev_a (fun he => ev_iload rfl rfl he) ?_
          refine ev_a (fun he => ev_push rfl he) ?_
          refine ev_a (fun he => ev_bin (z := x2 + 1) rfl rfl he) ?_
          refine ev_a (fun he => ev_bin (z := 61 * (x2 + 1)) rfl rfl he) ?_
          refine ev_a (fun he => ev_iload rfl rfl he) ?_
          refine ev_a (fun he => ev_bin (z := (61 * (x2 + 1)) + x3) rfl rfl he) ?_
          refine ev_a (fun he => ev_aload rfl rfl he) ?_
          refine ev_a (fun he => ev_getR rfl (gr_ob (n := 80) hG rfl) (gr_p (a := 235) (k := 41) (b := 262) hG rfl) he) ?_
          refine ev_a (fun he => ev_iload rfl rfl he) ?_
          obtain ⟨hc27, h⟩ := cO_inv h
          refine ev_a (fun he => ev_aldI (k := x2.toNatClampNeg) rfl (gr_ar hG rfl) hc27 rfl he) ?_
          refine ev_a (fun he => ev_bin (z := ((61 * (x2 + 1)) + x3) - (aI σ 262 x2.toNatClampNeg)) rfl rfl he) ?_
          obtain ⟨hc28, h⟩ := cO_inv h
          refine ev_a (fun he => ev_aldI (k := (((61 * (x2 + 1)) + x3) - (aI σ 262 x2.toNatClampNeg)).toNatClampNeg) rfl (gr_ar hG rfl) hc28 rfl he) ?_
          refine ev_a (fun he => ev_bin (z := ((100 * (aI σ 262 x2.toNatClampNeg)) - 1) + (aI σ 295 (((61 * (x2 + 1)) + x3) - (aI σ 262 x2.toNatClampNeg)).toNatClampNeg)) rfl rfl he) ?_
          refine ev_a (fun he => ev_istore (ls' := [.ref 235, .int x1, .int x2, .int x3, .int (aI σ 295 ((61 * (x2 + 1)) + x3).toNatClampNeg), .int (((100 * (aI σ 262 x2.toNatClampNeg)) - 1) + (aI σ 295 (((61 * (x2 + 1)) + x3) - (aI σ 262 x2.toNatClampNeg)).toNatClampNeg))]) rfl (Nat.le_of_ble_eq_true rfl) rfl he) ?_
          refine ev_a (fun he => ev_iload rfl rfl he) ?_
          refine ev_a (fun he => ev_iload rfl rfl he) ?_
          refine ev_b (c := (((100 * (aI σ 262 x2.toNatClampNeg)) - 1) + (aI σ 295 (((61 * (x2 + 1)) + x3) - (aI σ 262 x2.toNatClampNeg)).toNatClampNeg)) ≤ (aI σ 295 ((61 * (x2 + 1)) + x3).toNatClampNeg)) (fun ht hf => ev_cle rfl ht hf) (fun hc29 => ?_) (fun hc29 => ?_)
          · rw [if_pos hc29] at h
            exact TJ_X12_loads_249 xs L N k25 k158 (H_X12_loads_164 N k25 k158 n) hk25 hk158 hk164 x1 x2 x3 (aI σ 295 ((61 * (x2 + 1)) + x3).toNatClampNeg) (.int (((100 * (aI σ 262 x2.toNatClampNeg)) - 1) + (aI σ 295 (((61 * (x2 + 1)) + x3) - (aI σ 262 x2.toNatClampNeg)).toNatClampNeg))) σ q h hG
          · rw [if_neg hc29] at h
            refine ev_a (fun he => ev_iload rfl rfl he) ?_
            refine ev_a (fun he => ev_istore (ls' := [.ref 235, .int x1, .int x2, .int x3, .int (((100 * (aI σ 262 x2.toNatClampNeg)) - 1) + (aI σ 295 (((61 * (x2 + 1)) + x3) - (aI σ 262 x2.toNatClampNeg)).toNatClampNeg)), .int (((100 * (aI σ 262 x2.toNatClampNeg)) - 1) + (aI σ 295 (((61 * (x2 + 1)) + x3) - (aI σ 262 x2.toNatClampNeg)).toNatClampNeg))]) rfl (Nat.le_of_ble_eq_true rfl) rfl he) ?_
            exact TJ_X12_loads_249 xs L N k25 k158 (H_X12_loads_164 N k25 k158 n) hk25 hk158 hk164 x1 x2 x3 (((100 * (aI σ 262 x2.toNatClampNeg)) - 1) + (aI σ 295 (((61 * (x2 + 1)) + x3) - (aI σ 262 x2.toNatClampNeg)).toNatClampNeg)) (.int (((100 * (aI σ 262 x2.toNatClampNeg)) - 1) + (aI σ 295 (((61 * (x2 + 1)) + x3) - (aI σ 262 x2.toNatClampNeg)).toNatClampNeg))) σ q h hG
def H_X12_loads_158 (N : Nat) (k25 : Int32 → aSt → Option (Unit × aSt)) : Nat → Int32 → Int32 → aSt → Option (Unit × aSt)
  | 0, _, _, _ => none
  | n + 1, x1, x2, σ => if x2 < 0 then cO (¬ (x1 < 0 ∨ 6 ≤ x1.toNatClampNeg)) (H_X12_loads_283 N k25 N x1 (aI σ 269 x1.toNatClampNeg) 0 σ) else H_X12_loads_164 N k25 (H_X12_loads_158 N k25 n) N x1 x2 0 σ
set_option maxRecDepth 20000 in
set_option maxHeartbeats 4000000 in
theorem TH_X12_loads_158 (xs : Nat → Int32) (L : Nat) (N : Nat) (k25 : Int32 → aSt → Option (Unit × aSt)) (hk25 : ∀ (x1 : Int32) (d2 : Value) (d3 : Value) (d4 : Value) (d5 : Value) (σ : aSt) (q : Unit × aSt), k25 x1 σ = some q → Gr σ → Ev xs L 162 25 [.ref 235, .int x1, d2, d3, d4, d5] [] σ (wV q.1) q.2 ∧ Gr q.2) : ∀ (n : Nat) (x1 : Int32) (x2 : Int32) (d3 : Value) (d4 : Value) (d5 : Value) (σ : aSt) (q : Unit × aSt), H_X12_loads_158 N k25 n x1 x2 σ = some q → Gr σ → Ev xs L 162 158 [.ref 235, .int x1, .int x2, d3, d4, d5] [] σ (wV q.1) q.2 ∧ Gr q.2 := by
  intro n
  induction n with
  | zero =>
    intro x1 x2 d3 d4 d5 σ q h hG
    exact absurd (show (none : Option (Unit × aSt)) = some q from h) (by simp)
  | succ n ih =>
    intro x1 x2 d3 d4 d5 σ q h hG
    have hk158 : ∀ (x1 : Int32) (x2 : Int32) (d3 : Value) (d4 : Value) (d5 : Value) (σ : aSt) (q : Unit × aSt), H_X12_loads_158 N k25 n x1 x2 σ = some q → Gr σ → Ev xs L 162 158 [.ref 235, .int x1, .int x2, d3, d4, d5] [] σ (wV q.1) q.2 ∧ Gr q.2 := ih
    have h : (if x2 < 0 then cO (¬ (x1 < 0 ∨ 6 ≤ x1.toNatClampNeg)) (H_X12_loads_283 N k25 N x1 (aI σ 269 x1.toNatClampNeg) 0 σ) else H_X12_loads_164 N k25 (H_X12_loads_158 N k25 n) N x1 x2 0 σ) = some q := h
    refine ev_a (fun he => ev_iload rfl rfl he) ?_
    refine ev_b (c := x2 < 0) (fun ht hf => ev_iflt rfl ht hf) (fun hc30 => ?_) (fun hc30 => ?_)
    · rw [if_pos hc30] at h
      refine ev_a (fun he => ev_aload rfl rfl he) ?_
      refine ev_a (fun he => ev_getR rfl (gr_ob (n := 80) hG rfl) (gr_p (a := 235) (k := 50) (b := 269) hG rfl) he) ?_
      refine ev_a (fun he => ev_iload rfl rfl he) ?_
      obtain ⟨hc31, h⟩ := cO_inv h
      refine ev_a (fun he => ev_aldI (k := x1.toNatClampNeg) rfl (gr_ar hG rfl) hc31 rfl he) ?_
      refine ev_a (fun he => ev_istore (ls' := [.ref 235, .int x1, .int (aI σ 269 x1.toNatClampNeg), d3, d4, d5]) rfl (Nat.le_of_ble_eq_true rfl) rfl he) ?_
      refine ev_a (fun he => ev_push rfl he) ?_
      refine ev_a (fun he => ev_istore (ls' := [.ref 235, .int x1, .int (aI σ 269 x1.toNatClampNeg), .int 0, d4, d5]) rfl (Nat.le_of_ble_eq_true rfl) rfl he) ?_
      exact TH_X12_loads_283 xs L N k25 hk25 N x1 (aI σ 269 x1.toNatClampNeg) 0 (d4) (d5) σ q h hG
    · rw [if_neg hc30] at h
      refine ev_a (fun he => ev_push rfl he) ?_
      refine ev_a (fun he => ev_istore (ls' := [.ref 235, .int x1, .int x2, .int 0, d4, d5]) rfl (Nat.le_of_ble_eq_true rfl) rfl he) ?_
      exact TH_X12_loads_164 xs L N k25 (H_X12_loads_158 N k25 n) hk25 hk158 N x1 x2 0 (d4) (d5) σ q h hG
def H_X12_loads_124 (N : Nat) (k25 : Int32 → aSt → Option (Unit × aSt)) : Nat → Int32 → Int32 → aSt → Option (Unit × aSt)
  | 0, _, _, _ => none
  | n + 1, x1, x2, σ => if 61 ≤ x2 then H_X12_loads_158 N k25 N x1 ((aI σ 235 37) - 1) σ else cO (¬ (((61 * (aI σ 235 37)) + x2) < 0 ∨ 1525 ≤ ((61 * (aI σ 235 37)) + x2).toNatClampNeg)) (lt (aWI σ 295 ((61 * (aI σ 235 37)) + x2).toNatClampNeg 0) fun σ34 => (H_X12_loads_124 N k25 n) x1 (x2 + 1) σ34)
set_option maxRecDepth 20000 in
set_option maxHeartbeats 4000000 in
theorem TH_X12_loads_124 (xs : Nat → Int32) (L : Nat) (N : Nat) (k25 : Int32 → aSt → Option (Unit × aSt)) (hk25 : ∀ (x1 : Int32) (d2 : Value) (d3 : Value) (d4 : Value) (d5 : Value) (σ : aSt) (q : Unit × aSt), k25 x1 σ = some q → Gr σ → Ev xs L 162 25 [.ref 235, .int x1, d2, d3, d4, d5] [] σ (wV q.1) q.2 ∧ Gr q.2) : ∀ (n : Nat) (x1 : Int32) (x2 : Int32) (d3 : Value) (d4 : Value) (d5 : Value) (σ : aSt) (q : Unit × aSt), H_X12_loads_124 N k25 n x1 x2 σ = some q → Gr σ → Ev xs L 162 124 [.ref 235, .int x1, .int x2, d3, d4, d5] [] σ (wV q.1) q.2 ∧ Gr q.2 := by
  intro n
  induction n with
  | zero =>
    intro x1 x2 d3 d4 d5 σ q h hG
    exact absurd (show (none : Option (Unit × aSt)) = some q from h) (by simp)
  | succ n ih =>
    intro x1 x2 d3 d4 d5 σ q h hG
    have hk124 : ∀ (x1 : Int32) (x2 : Int32) (d3 : Value) (d4 : Value) (d5 : Value) (σ : aSt) (q : Unit × aSt), H_X12_loads_124 N k25 n x1 x2 σ = some q → Gr σ → Ev xs L 162 124 [.ref 235, .int x1, .int x2, d3, d4, d5] [] σ (wV q.1) q.2 ∧ Gr q.2 := ih
    have h : (if 61 ≤ x2 then H_X12_loads_158 N k25 N x1 ((aI σ 235 37) - 1) σ else cO (¬ (((61 * (aI σ 235 37)) + x2) < 0 ∨ 1525 ≤ ((61 * (aI σ 235 37)) + x2).toNatClampNeg)) (lt (aWI σ 295 ((61 * (aI σ 235 37)) + x2).toNatClampNeg 0) fun σ34 => (H_X12_loads_124 N k25 n) x1 (x2 + 1) σ34)) = some q := h
    refine ev_a (fun he => ev_iload rfl rfl he) ?_
    refine ev_a (fun he => ev_push rfl he) ?_
    refine ev_b (c := 61 ≤ x2) (fun ht hf => ev_cge rfl ht hf) (fun hc32 => ?_) (fun hc32 => ?_)
    · rw [if_pos hc32] at h
      refine ev_a (fun he => ev_aload rfl rfl he) ?_
      refine ev_a (fun he => ev_getI rfl (gr_ob (n := 80) hG rfl) he) ?_
      refine ev_a (fun he => ev_push rfl he) ?_
      refine ev_a (fun he => ev_bin (z := (aI σ 235 37) - 1) rfl rfl he) ?_
      refine ev_a (fun he => ev_istore (ls' := [.ref 235, .int x1, .int ((aI σ 235 37) - 1), d3, d4, d5]) rfl (Nat.le_of_ble_eq_true rfl) rfl he) ?_
      exact TH_X12_loads_158 xs L N k25 hk25 N x1 ((aI σ 235 37) - 1) (d3) (d4) (d5) σ q h hG
    · rw [if_neg hc32] at h
      refine ev_a (fun he => ev_aload rfl rfl he) ?_
      refine ev_a (fun he => ev_getR rfl (gr_ob (n := 80) hG rfl) (gr_p (a := 235) (k := 78) (b := 295) hG rfl) he) ?_
      refine ev_a (fun he => ev_push rfl he) ?_
      refine ev_a (fun he => ev_aload rfl rfl he) ?_
      refine ev_a (fun he => ev_getI rfl (gr_ob (n := 80) hG rfl) he) ?_
      refine ev_a (fun he => ev_bin (z := 61 * (aI σ 235 37)) rfl rfl he) ?_
      refine ev_a (fun he => ev_iload rfl rfl he) ?_
      refine ev_a (fun he => ev_bin (z := (61 * (aI σ 235 37)) + x2) rfl rfl he) ?_
      refine ev_a (fun he => ev_push rfl he) ?_
      obtain ⟨hc33, h⟩ := cO_inv h
      obtain ⟨σ34, e35, h⟩ := lt_inv h
      have hG36 : Gr σ34 := gr_wi e35 hG
      refine ev_a (fun he => ev_astI (k := ((61 * (aI σ 235 37)) + x2).toNatClampNeg) rfl (gr_ar hG rfl) hc33 rfl rfl e35 he) ?_
      refine ev_a (fun he => ev_iinc (ls' := [.ref 235, .int x1, .int (x2 + 1), d3, d4, d5]) rfl rfl rfl (Nat.le_of_ble_eq_true rfl) rfl he) ?_
      refine ev_a (fun he => ev_goto rfl he) ?_
      exact hk124 x1 (x2 + 1) (d3) (d4) (d5) σ34 q h hG36
def J_X12_loads_115 (N : Nat) (k25 : Int32 → aSt → Option (Unit × aSt)) (k35 : Int32 → Int32 → aSt → Option (Unit × aSt)) (x1 : Int32) (x2 : Int32) (s1 : Int32) (s2 : Int32) (σ : aSt) : Option (Unit × aSt) := cO (¬ (s1 < 0 ∨ 24 ≤ s1.toNatClampNeg)) (lt (aWI σ 296 s1.toNatClampNeg (vp_nar .boolean s2)) fun σ38 => k35 x1 (x2 + 1) σ38)
set_option maxRecDepth 20000 in
set_option maxHeartbeats 4000000 in
theorem TJ_X12_loads_115 (xs : Nat → Int32) (L : Nat) (N : Nat) (k25 : Int32 → aSt → Option (Unit × aSt)) (k35 : Int32 → Int32 → aSt → Option (Unit × aSt)) (hk25 : ∀ (x1 : Int32) (d2 : Value) (d3 : Value) (d4 : Value) (d5 : Value) (σ : aSt) (q : Unit × aSt), k25 x1 σ = some q → Gr σ → Ev xs L 162 25 [.ref 235, .int x1, d2, d3, d4, d5] [] σ (wV q.1) q.2 ∧ Gr q.2) (hk35 : ∀ (x1 : Int32) (x2 : Int32) (d3 : Value) (d4 : Value) (d5 : Value) (σ : aSt) (q : Unit × aSt), k35 x1 x2 σ = some q → Gr σ → Ev xs L 162 35 [.ref 235, .int x1, .int x2, d3, d4, d5] [] σ (wV q.1) q.2 ∧ Gr q.2) (x1 : Int32) (x2 : Int32) (s1 : Int32) (s2 : Int32) (d3 : Value) (d4 : Value) (d5 : Value) (σ : aSt) (q : Unit × aSt) (h : J_X12_loads_115 N k25 k35 x1 x2 s1 s2 σ = some q) (hG : Gr σ) : Ev xs L 162 115 [.ref 235, .int x1, .int x2, d3, d4, d5] [.int s2, .int s1, .ref 296] σ (wV q.1) q.2 ∧ Gr q.2 := by
  have h : (cO (¬ (s1 < 0 ∨ 24 ≤ s1.toNatClampNeg)) (lt (aWI σ 296 s1.toNatClampNeg (vp_nar .boolean s2)) fun σ38 => k35 x1 (x2 + 1) σ38)) = some q := h
  obtain ⟨hc37, h⟩ := cO_inv h
  obtain ⟨σ38, e39, h⟩ := lt_inv h
  have hG40 : Gr σ38 := gr_wi e39 hG
  refine ev_a (fun he => ev_astI (k := s1.toNatClampNeg) rfl (gr_ar hG rfl) hc37 rfl rfl e39 he) ?_
  refine ev_a (fun he => ev_iinc (ls' := [.ref 235, .int x1, .int (x2 + 1), d3, d4, d5]) rfl rfl rfl (Nat.le_of_ble_eq_true rfl) rfl he) ?_
  refine ev_a (fun he => ev_goto rfl he) ?_
  exact hk35 x1 (x2 + 1) (d3) (d4) (d5) σ38 q h hG40
def J_X12_loads_114 (N : Nat) (k25 : Int32 → aSt → Option (Unit × aSt)) (k35 : Int32 → Int32 → aSt → Option (Unit × aSt)) (x1 : Int32) (x2 : Int32) (s1 : Int32) (σ : aSt) : Option (Unit × aSt) := J_X12_loads_115 N k25 k35 x1 x2 s1 0 σ
set_option maxRecDepth 20000 in
set_option maxHeartbeats 4000000 in
theorem TJ_X12_loads_114 (xs : Nat → Int32) (L : Nat) (N : Nat) (k25 : Int32 → aSt → Option (Unit × aSt)) (k35 : Int32 → Int32 → aSt → Option (Unit × aSt)) (hk25 : ∀ (x1 : Int32) (d2 : Value) (d3 : Value) (d4 : Value) (d5 : Value) (σ : aSt) (q : Unit × aSt), k25 x1 σ = some q → Gr σ → Ev xs L 162 25 [.ref 235, .int x1, d2, d3, d4, d5] [] σ (wV q.1) q.2 ∧ Gr q.2) (hk35 : ∀ (x1 : Int32) (x2 : Int32) (d3 : Value) (d4 : Value) (d5 : Value) (σ : aSt) (q : Unit × aSt), k35 x1 x2 σ = some q → Gr σ → Ev xs L 162 35 [.ref 235, .int x1, .int x2, d3, d4, d5] [] σ (wV q.1) q.2 ∧ Gr q.2) (x1 : Int32) (x2 : Int32) (s1 : Int32) (d3 : Value) (d4 : Value) (d5 : Value) (σ : aSt) (q : Unit × aSt) (h : J_X12_loads_114 N k25 k35 x1 x2 s1 σ = some q) (hG : Gr σ) : Ev xs L 162 114 [.ref 235, .int x1, .int x2, d3, d4, d5] [.int s1, .ref 296] σ (wV q.1) q.2 ∧ Gr q.2 := by
  have h : (J_X12_loads_115 N k25 k35 x1 x2 s1 0 σ) = some q := h
  refine ev_a (fun he => ev_push rfl he) ?_
  exact TJ_X12_loads_115 xs L N k25 k35 hk25 hk35 x1 x2 s1 0 (d3) (d4) (d5) σ q h hG
def H_X12_loads_35 (N : Nat) (k25 : Int32 → aSt → Option (Unit × aSt)) : Nat → Int32 → Int32 → aSt → Option (Unit × aSt)
  | 0, _, _, _ => none
  | n + 1, x1, x2, σ => if (aI σ 235 37) ≤ x2 then H_X12_loads_124 N k25 N x1 0 σ else cO (¬ (x2 < 0 ∨ 24 ≤ x2.toNatClampNeg)) (if (aI σ 294 x2.toNatClampNeg) ≠ ((-1)) then J_X12_loads_114 N k25 (H_X12_loads_35 N k25 n) x1 x2 x2 σ else cO (¬ (x2 < 0 ∨ 24 ≤ x2.toNatClampNeg)) (if (aI σ 287 x2.toNatClampNeg) = ((-1)) then J_X12_loads_114 N k25 (H_X12_loads_35 N k25 n) x1 x2 x2 σ else cO (¬ (x2 < 0 ∨ 24 ≤ x2.toNatClampNeg)) (cO (¬ ((aI σ 287 x2.toNatClampNeg) < 0 ∨ 6 ≤ (aI σ 287 x2.toNatClampNeg).toNatClampNeg)) (cO (¬ (x1 < 0 ∨ 6 ≤ x1.toNatClampNeg)) (if (aI σ 264 (aI σ 287 x2.toNatClampNeg).toNatClampNeg) ≠ (aI σ 268 x1.toNatClampNeg) then J_X12_loads_114 N k25 (H_X12_loads_35 N k25 n) x1 x2 x2 σ else cO (¬ (x2 < 0 ∨ 24 ≤ x2.toNatClampNeg)) (cO (¬ (x2 < 0 ∨ 24 ≤ x2.toNatClampNeg)) (cO (¬ (x1 < 0 ∨ 6 ≤ x1.toNatClampNeg)) (if (aI σ 270 x1.toNatClampNeg) < ((aI σ 289 x2.toNatClampNeg) + (aI σ 262 x2.toNatClampNeg)) then J_X12_loads_114 N k25 (H_X12_loads_35 N k25 n) x1 x2 x2 σ else J_X12_loads_115 N k25 (H_X12_loads_35 N k25 n) x1 x2 x2 1 σ))))))))
set_option maxRecDepth 20000 in
set_option maxHeartbeats 4000000 in
theorem TH_X12_loads_35 (xs : Nat → Int32) (L : Nat) (N : Nat) (k25 : Int32 → aSt → Option (Unit × aSt)) (hk25 : ∀ (x1 : Int32) (d2 : Value) (d3 : Value) (d4 : Value) (d5 : Value) (σ : aSt) (q : Unit × aSt), k25 x1 σ = some q → Gr σ → Ev xs L 162 25 [.ref 235, .int x1, d2, d3, d4, d5] [] σ (wV q.1) q.2 ∧ Gr q.2) : ∀ (n : Nat) (x1 : Int32) (x2 : Int32) (d3 : Value) (d4 : Value) (d5 : Value) (σ : aSt) (q : Unit × aSt), H_X12_loads_35 N k25 n x1 x2 σ = some q → Gr σ → Ev xs L 162 35 [.ref 235, .int x1, .int x2, d3, d4, d5] [] σ (wV q.1) q.2 ∧ Gr q.2 := by
  intro n
  induction n with
  | zero =>
    intro x1 x2 d3 d4 d5 σ q h hG
    exact absurd (show (none : Option (Unit × aSt)) = some q from h) (by simp)
  | succ n ih =>
    intro x1 x2 d3 d4 d5 σ q h hG
    have hk35 : ∀ (x1 : Int32) (x2 : Int32) (d3 : Value) (d4 : Value) (d5 : Value) (σ : aSt) (q : Unit × aSt), H_X12_loads_35 N k25 n x1 x2 σ = some q → Gr σ → Ev xs L 162 35 [.ref 235, .int x1, .int x2, d3, d4, d5] [] σ (wV q.1) q.2 ∧ Gr q.2 := ih
    have h : (if (aI σ 235 37) ≤ x2 then H_X12_loads_124 N k25 N x1 0 σ else cO (¬ (x2 < 0 ∨ 24 ≤ x2.toNatClampNeg)) (if (aI σ 294 x2.toNatClampNeg) ≠ ((-1)) then J_X12_loads_114 N k25 (H_X12_loads_35 N k25 n) x1 x2 x2 σ else cO (¬ (x2 < 0 ∨ 24 ≤ x2.toNatClampNeg)) (if (aI σ 287 x2.toNatClampNeg) = ((-1)) then J_X12_loads_114 N k25 (H_X12_loads_35 N k25 n) x1 x2 x2 σ else cO (¬ (x2 < 0 ∨ 24 ≤ x2.toNatClampNeg)) (cO (¬ ((aI σ 287 x2.toNatClampNeg) < 0 ∨ 6 ≤ (aI σ 287 x2.toNatClampNeg).toNatClampNeg)) (cO (¬ (x1 < 0 ∨ 6 ≤ x1.toNatClampNeg)) (if (aI σ 264 (aI σ 287 x2.toNatClampNeg).toNatClampNeg) ≠ (aI σ 268 x1.toNatClampNeg) then J_X12_loads_114 N k25 (H_X12_loads_35 N k25 n) x1 x2 x2 σ else cO (¬ (x2 < 0 ∨ 24 ≤ x2.toNatClampNeg)) (cO (¬ (x2 < 0 ∨ 24 ≤ x2.toNatClampNeg)) (cO (¬ (x1 < 0 ∨ 6 ≤ x1.toNatClampNeg)) (if (aI σ 270 x1.toNatClampNeg) < ((aI σ 289 x2.toNatClampNeg) + (aI σ 262 x2.toNatClampNeg)) then J_X12_loads_114 N k25 (H_X12_loads_35 N k25 n) x1 x2 x2 σ else J_X12_loads_115 N k25 (H_X12_loads_35 N k25 n) x1 x2 x2 1 σ))))))))) = some q := h
    refine ev_a (fun he => ev_iload rfl rfl he) ?_
    refine ev_a (fun he => ev_aload rfl rfl he) ?_
    refine ev_a (fun he => ev_getI rfl (gr_ob (n := 80) hG rfl) he) ?_
    refine ev_b (c := (aI σ 235 37) ≤ x2) (fun ht hf => ev_cge rfl ht hf) (fun hc41 => ?_) (fun hc41 => ?_)
    · rw [if_pos hc41] at h
      refine ev_a (fun he => ev_push rfl he) ?_
      refine ev_a (fun he => ev_istore (ls' := [.ref 235, .int x1, .int 0, d3, d4, d5]) rfl (Nat.le_of_ble_eq_true rfl) rfl he) ?_
      exact TH_X12_loads_124 xs L N k25 hk25 N x1 0 (d3) (d4) (d5) σ q h hG
    · rw [if_neg hc41] at h
      refine ev_a (fun he => ev_aload rfl rfl he) ?_
      refine ev_a (fun he => ev_getR rfl (gr_ob (n := 80) hG rfl) (gr_p (a := 235) (k := 79) (b := 296) hG rfl) he) ?_
      refine ev_a (fun he => ev_iload rfl rfl he) ?_
      refine ev_a (fun he => ev_aload rfl rfl he) ?_
      refine ev_a (fun he => ev_getR rfl (gr_ob (n := 80) hG rfl) (gr_p (a := 235) (k := 77) (b := 294) hG rfl) he) ?_
      refine ev_a (fun he => ev_iload rfl rfl he) ?_
      obtain ⟨hc42, h⟩ := cO_inv h
      refine ev_a (fun he => ev_aldI (k := x2.toNatClampNeg) rfl (gr_ar hG rfl) hc42 rfl he) ?_
      refine ev_a (fun he => ev_push rfl he) ?_
      refine ev_b (c := (aI σ 294 x2.toNatClampNeg) ≠ ((-1))) (fun ht hf => ev_cne rfl ht hf) (fun hc43 => ?_) (fun hc43 => ?_)
      · rw [if_pos hc43] at h
        exact TJ_X12_loads_114 xs L N k25 (H_X12_loads_35 N k25 n) hk25 hk35 x1 x2 x2 (d3) (d4) (d5) σ q h hG
      · rw [if_neg hc43] at h
        refine ev_a (fun he => ev_aload rfl rfl he) ?_
        refine ev_a (fun he => ev_getR rfl (gr_ob (n := 80) hG rfl) (gr_p (a := 235) (k := 70) (b := 287) hG rfl) he) ?_
        refine ev_a (fun he => ev_iload rfl rfl he) ?_
        obtain ⟨hc44, h⟩ := cO_inv h
        refine ev_a (fun he => ev_aldI (k := x2.toNatClampNeg) rfl (gr_ar hG rfl) hc44 rfl he) ?_
        refine ev_a (fun he => ev_push rfl he) ?_
        refine ev_b (c := (aI σ 287 x2.toNatClampNeg) = ((-1))) (fun ht hf => ev_ceq rfl ht hf) (fun hc45 => ?_) (fun hc45 => ?_)
        · rw [if_pos hc45] at h
          exact TJ_X12_loads_114 xs L N k25 (H_X12_loads_35 N k25 n) hk25 hk35 x1 x2 x2 (d3) (d4) (d5) σ q h hG
        · rw [if_neg hc45] at h
          refine ev_a (fun he => ev_aload rfl rfl he) ?_
          refine ev_a (fun he => ev_getR rfl (gr_ob (n := 80) hG rfl) (gr_p (a := 235) (k := 44) (b := 264) hG rfl) he) ?_
          refine ev_a (fun he => ev_aload rfl rfl he) ?_
          refine ev_a (fun he => ev_getR rfl (gr_ob (n := 80) hG rfl) (gr_p (a := 235) (k := 70) (b := 287) hG rfl) he) ?_
          refine ev_a (fun he => ev_iload rfl rfl he) ?_
          obtain ⟨hc46, h⟩ := cO_inv h
          refine ev_a (fun he => ev_aldI (k := x2.toNatClampNeg) rfl (gr_ar hG rfl) hc46 rfl he) ?_
          obtain ⟨hc47, h⟩ := cO_inv h
          refine ev_a (fun he => ev_aldI (k := (aI σ 287 x2.toNatClampNeg).toNatClampNeg) rfl (gr_ar hG rfl) hc47 rfl he) ?_
          refine ev_a (fun he => ev_aload rfl rfl he) ?_
          refine ev_a (fun he => ev_getR rfl (gr_ob (n := 80) hG rfl) (gr_p (a := 235) (k := 49) (b := 268) hG rfl) he) ?_
          refine ev_a (fun he => ev_iload rfl rfl he) ?_
          obtain ⟨hc48, h⟩ := cO_inv h
          refine ev_a (fun he => ev_aldI (k := x1.toNatClampNeg) rfl (gr_ar hG rfl) hc48 rfl he) ?_
          refine ev_b (c := (aI σ 264 (aI σ 287 x2.toNatClampNeg).toNatClampNeg) ≠ (aI σ 268 x1.toNatClampNeg)) (fun ht hf => ev_cne rfl ht hf) (fun hc49 => ?_) (fun hc49 => ?_)
          · rw [if_pos hc49] at h
            exact TJ_X12_loads_114 xs L N k25 (H_X12_loads_35 N k25 n) hk25 hk35 x1 x2 x2 (d3) (d4) (d5) σ q h hG
          · rw [if_neg hc49] at h
            refine ev_a (fun he => ev_aload rfl rfl he) ?_
            refine ev_a (fun he => ev_getR rfl (gr_ob (n := 80) hG rfl) (gr_p (a := 235) (k := 72) (b := 289) hG rfl) he) ?_
            refine ev_a (fun he => ev_iload rfl rfl he) ?_
            obtain ⟨hc50, h⟩ := cO_inv h
            refine ev_a (fun he => ev_aldI (k := x2.toNatClampNeg) rfl (gr_ar hG rfl) hc50 rfl he) ?_
            refine ev_a (fun he => ev_aload rfl rfl he) ?_
            refine ev_a (fun he => ev_getR rfl (gr_ob (n := 80) hG rfl) (gr_p (a := 235) (k := 41) (b := 262) hG rfl) he) ?_
            refine ev_a (fun he => ev_iload rfl rfl he) ?_
            obtain ⟨hc51, h⟩ := cO_inv h
            refine ev_a (fun he => ev_aldI (k := x2.toNatClampNeg) rfl (gr_ar hG rfl) hc51 rfl he) ?_
            refine ev_a (fun he => ev_bin (z := (aI σ 289 x2.toNatClampNeg) + (aI σ 262 x2.toNatClampNeg)) rfl rfl he) ?_
            refine ev_a (fun he => ev_aload rfl rfl he) ?_
            refine ev_a (fun he => ev_getR rfl (gr_ob (n := 80) hG rfl) (gr_p (a := 235) (k := 51) (b := 270) hG rfl) he) ?_
            refine ev_a (fun he => ev_iload rfl rfl he) ?_
            obtain ⟨hc52, h⟩ := cO_inv h
            refine ev_a (fun he => ev_aldI (k := x1.toNatClampNeg) rfl (gr_ar hG rfl) hc52 rfl he) ?_
            refine ev_b (c := (aI σ 270 x1.toNatClampNeg) < ((aI σ 289 x2.toNatClampNeg) + (aI σ 262 x2.toNatClampNeg))) (fun ht hf => ev_cgt rfl ht hf) (fun hc53 => ?_) (fun hc53 => ?_)
            · rw [if_pos hc53] at h
              exact TJ_X12_loads_114 xs L N k25 (H_X12_loads_35 N k25 n) hk25 hk35 x1 x2 x2 (d3) (d4) (d5) σ q h hG
            · rw [if_neg hc53] at h
              refine ev_a (fun he => ev_push rfl he) ?_
              refine ev_a (fun he => ev_goto rfl he) ?_
              exact TJ_X12_loads_115 xs L N k25 (H_X12_loads_35 N k25 n) hk25 hk35 x1 x2 x2 1 (d3) (d4) (d5) σ q h hG
def H_X12_loads_25 (N : Nat) : Nat → Int32 → aSt → Option (Unit × aSt)
  | 0, _, _ => none
  | n + 1, x1, σ => if (aI σ 235 48) ≤ x1 then some ((), σ) else H_X12_loads_35 N (H_X12_loads_25 N n) N x1 0 σ
set_option maxRecDepth 20000 in
set_option maxHeartbeats 4000000 in
theorem TH_X12_loads_25 (xs : Nat → Int32) (L : Nat) (N : Nat) : ∀ (n : Nat) (x1 : Int32) (d2 : Value) (d3 : Value) (d4 : Value) (d5 : Value) (σ : aSt) (q : Unit × aSt), H_X12_loads_25 N n x1 σ = some q → Gr σ → Ev xs L 162 25 [.ref 235, .int x1, d2, d3, d4, d5] [] σ (wV q.1) q.2 ∧ Gr q.2 := by
  intro n
  induction n with
  | zero =>
    intro x1 d2 d3 d4 d5 σ q h hG
    exact absurd (show (none : Option (Unit × aSt)) = some q from h) (by simp)
  | succ n ih =>
    intro x1 d2 d3 d4 d5 σ q h hG
    have hk25 : ∀ (x1 : Int32) (d2 : Value) (d3 : Value) (d4 : Value) (d5 : Value) (σ : aSt) (q : Unit × aSt), H_X12_loads_25 N n x1 σ = some q → Gr σ → Ev xs L 162 25 [.ref 235, .int x1, d2, d3, d4, d5] [] σ (wV q.1) q.2 ∧ Gr q.2 := ih
    have h : (if (aI σ 235 48) ≤ x1 then some ((), σ) else H_X12_loads_35 N (H_X12_loads_25 N n) N x1 0 σ) = some q := h
    refine ev_a (fun he => ev_iload rfl rfl he) ?_
    refine ev_a (fun he => ev_aload rfl rfl he) ?_
    refine ev_a (fun he => ev_getI rfl (gr_ob (n := 80) hG rfl) he) ?_
    refine ev_b (c := (aI σ 235 48) ≤ x1) (fun ht hf => ev_cge rfl ht hf) (fun hc54 => ?_) (fun hc54 => ?_)
    · rw [if_pos hc54] at h
      cases h
      exact ⟨ev_retV rfl, hG⟩
    · rw [if_neg hc54] at h
      refine ev_a (fun he => ev_push rfl he) ?_
      refine ev_a (fun he => ev_istore (ls' := [.ref 235, .int x1, .int 0, d3, d4, d5]) rfl (Nat.le_of_ble_eq_true rfl) rfl he) ?_
      exact TH_X12_loads_35 xs L N (H_X12_loads_25 N n) hk25 N x1 0 (d3) (d4) (d5) σ q h hG
def H_X12_loads_2 (N : Nat) : Nat → Int32 → aSt → Option (Unit × aSt)
  | 0, _, _ => none
  | n + 1, x1, σ => if (aI σ 235 37) ≤ x1 then H_X12_loads_25 N N 0 σ else cO (¬ (x1 < 0 ∨ 24 ≤ x1.toNatClampNeg)) (lt (aWI σ 294 x1.toNatClampNeg ((-1))) fun σ57 => (H_X12_loads_2 N n) (x1 + 1) σ57)
set_option maxRecDepth 20000 in
set_option maxHeartbeats 4000000 in
theorem TH_X12_loads_2 (xs : Nat → Int32) (L : Nat) (N : Nat) : ∀ (n : Nat) (x1 : Int32) (d2 : Value) (d3 : Value) (d4 : Value) (d5 : Value) (σ : aSt) (q : Unit × aSt), H_X12_loads_2 N n x1 σ = some q → Gr σ → Ev xs L 162 2 [.ref 235, .int x1, d2, d3, d4, d5] [] σ (wV q.1) q.2 ∧ Gr q.2 := by
  intro n
  induction n with
  | zero =>
    intro x1 d2 d3 d4 d5 σ q h hG
    exact absurd (show (none : Option (Unit × aSt)) = some q from h) (by simp)
  | succ n ih =>
    intro x1 d2 d3 d4 d5 σ q h hG
    have hk2 : ∀ (x1 : Int32) (d2 : Value) (d3 : Value) (d4 : Value) (d5 : Value) (σ : aSt) (q : Unit × aSt), H_X12_loads_2 N n x1 σ = some q → Gr σ → Ev xs L 162 2 [.ref 235, .int x1, d2, d3, d4, d5] [] σ (wV q.1) q.2 ∧ Gr q.2 := ih
    have h : (if (aI σ 235 37) ≤ x1 then H_X12_loads_25 N N 0 σ else cO (¬ (x1 < 0 ∨ 24 ≤ x1.toNatClampNeg)) (lt (aWI σ 294 x1.toNatClampNeg ((-1))) fun σ57 => (H_X12_loads_2 N n) (x1 + 1) σ57)) = some q := h
    refine ev_a (fun he => ev_iload rfl rfl he) ?_
    refine ev_a (fun he => ev_aload rfl rfl he) ?_
    refine ev_a (fun he => ev_getI rfl (gr_ob (n := 80) hG rfl) he) ?_
    refine ev_b (c := (aI σ 235 37) ≤ x1) (fun ht hf => ev_cge rfl ht hf) (fun hc55 => ?_) (fun hc55 => ?_)
    · rw [if_pos hc55] at h
      refine ev_a (fun he => ev_push rfl he) ?_
      refine ev_a (fun he => ev_istore (ls' := [.ref 235, .int 0, d2, d3, d4, d5]) rfl (Nat.le_of_ble_eq_true rfl) rfl he) ?_
      exact TH_X12_loads_25 xs L N N 0 (d2) (d3) (d4) (d5) σ q h hG
    · rw [if_neg hc55] at h
      refine ev_a (fun he => ev_aload rfl rfl he) ?_
      refine ev_a (fun he => ev_getR rfl (gr_ob (n := 80) hG rfl) (gr_p (a := 235) (k := 77) (b := 294) hG rfl) he) ?_
      refine ev_a (fun he => ev_iload rfl rfl he) ?_
      refine ev_a (fun he => ev_push rfl he) ?_
      obtain ⟨hc56, h⟩ := cO_inv h
      obtain ⟨σ57, e58, h⟩ := lt_inv h
      have hG59 : Gr σ57 := gr_wi e58 hG
      refine ev_a (fun he => ev_astI (k := x1.toNatClampNeg) rfl (gr_ar hG rfl) hc56 rfl rfl e58 he) ?_
      refine ev_a (fun he => ev_iinc (ls' := [.ref 235, .int (x1 + 1), d2, d3, d4, d5]) rfl rfl rfl (Nat.le_of_ble_eq_true rfl) rfl he) ?_
      refine ev_a (fun he => ev_goto rfl he) ?_
      exact hk2 (x1 + 1) (d2) (d3) (d4) (d5) σ57 q h hG59
def F_X12_loads (N : Nat) (σ : aSt) : Option (Unit × aSt) := H_X12_loads_2 N N 0 σ
set_option maxRecDepth 20000 in
set_option maxHeartbeats 4000000 in
theorem T_X12_loads (xs : Nat → Int32) (L : Nat) (N : Nat) (σ : aSt) (q : Unit × aSt) (h : F_X12_loads N σ = some q) (hG : Gr σ) : Cal xs L 162 [.ref 235] σ (wV q.1) q.2 ∧ Gr q.2 := by
  have h : (H_X12_loads_2 N N 0 σ) = some q := h
  show Ev xs L 162 0 [.ref 235, aU, aU, aU, aU, aU] [] σ (wV q.1) q.2 ∧ Gr q.2
  refine ev_a (fun he => ev_push rfl he) ?_
  refine ev_a (fun he => ev_istore (ls' := [.ref 235, .int 0, aU, aU, aU, aU]) rfl (Nat.le_of_ble_eq_true rfl) rfl he) ?_
  exact TH_X12_loads_2 xs L N N 0 (aU) (aU) (aU) (aU) σ q h hG
