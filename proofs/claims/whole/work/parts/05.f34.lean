def J_X12_last_17 (N : Nat) (s0 : Int32) (σ : aSt) : Option (Int32 × aSt) := some (s0, σ)
set_option maxRecDepth 20000 in
set_option maxHeartbeats 4000000 in
theorem TJ_X12_last_17 (xs : Nat → Int32) (L : Nat) (N : Nat) (s0 : Int32) (d0 : Value) (d1 : Value) (σ : aSt) (q : Int32 × aSt) (h : J_X12_last_17 N s0 σ = some q) (hG : Gr σ) : Ev xs L 168 17 [d0, d1] [.int s0] σ (wI q.1) q.2 ∧ Gr q.2 := by
  have h : (some (s0, σ)) = some q := h
  cases h
  exact ⟨ev_retI rfl, hG⟩
def F_X12_last (N : Nat) (x1 : Int32) (σ : aSt) : Option (Int32 × aSt) := oB (F_X12_isKind N x1 σ) fun y1 σ2 => if y1 = 0 then J_X12_last_17 N 0 σ2 else cO (¬ (x1 < 0 ∨ 6 ≤ x1.toNatClampNeg)) (J_X12_last_17 N (aI σ2 267 x1.toNatClampNeg) σ2)
set_option maxRecDepth 20000 in
set_option maxHeartbeats 4000000 in
theorem T_X12_last (xs : Nat → Int32) (L : Nat) (N : Nat) (x1 : Int32) (σ : aSt) (q : Int32 × aSt) (h : F_X12_last N x1 σ = some q) (hG : Gr σ) : Cal xs L 168 [.ref 235, .int x1] σ (wI q.1) q.2 ∧ Gr q.2 := by
  have h : (oB (F_X12_isKind N x1 σ) fun y1 σ2 => if y1 = 0 then J_X12_last_17 N 0 σ2 else cO (¬ (x1 < 0 ∨ 6 ≤ x1.toNatClampNeg)) (J_X12_last_17 N (aI σ2 267 x1.toNatClampNeg) σ2)) = some q := h
  show Ev xs L 168 0 [.ref 235, .int x1] [] σ (wI q.1) q.2 ∧ Gr q.2
  refine ev_a (fun he => ev_iload rfl rfl he) ?_
  obtain ⟨y1, σ2, h3, h⟩ := oB_inv h
  obtain ⟨c4, hG5⟩ := T_X12_isKind xs L N x1 σ (y1, σ2) h3 hG
  refine ev_a (fun he => ev_callS (as := [.int x1]) rfl rfl rfl rfl (Nat.le_of_ble_eq_true rfl) (Nat.le_of_ble_eq_true rfl) c4 he) ?_
  refine ev_b (c := y1 = 0) (fun ht hf => ev_ifeq rfl ht hf) (fun hc6 => ?_) (fun hc6 => ?_)
  · rw [if_pos hc6] at h
    refine ev_a (fun he => ev_push rfl he) ?_
    exact TJ_X12_last_17 xs L N 0 (.ref 235) (.int x1) σ2 q h hG5
  · rw [if_neg hc6] at h
    refine ev_a (fun he => ev_aload rfl rfl he) ?_
    refine ev_a (fun he => ev_getR rfl (gr_ob (n := 80) hG5 rfl) (gr_p (a := 235) (k := 47) (b := 267) hG5 rfl) he) ?_
    refine ev_a (fun he => ev_iload rfl rfl he) ?_
    obtain ⟨hc7, h⟩ := cO_inv h
    refine ev_a (fun he => ev_aldI (k := x1.toNatClampNeg) rfl (gr_ar hG5 rfl) hc7 rfl he) ?_
    refine ev_a (fun he => ev_goto rfl he) ?_
    exact TJ_X12_last_17 xs L N (aI σ2 267 x1.toNatClampNeg) (.ref 235) (.int x1) σ2 q h hG5
def J_X12_gets_16 (N : Nat) (σ : aSt) : Option (Int32 × aSt) := some ((-1), σ)
set_option maxRecDepth 20000 in
set_option maxHeartbeats 4000000 in
theorem TJ_X12_gets_16 (xs : Nat → Int32) (L : Nat) (N : Nat) (d0 : Value) (d1 : Value) (d2 : Value) (d3 : Value) (σ : aSt) (q : Int32 × aSt) (h : J_X12_gets_16 N  σ = some q) (hG : Gr σ) : Ev xs L 169 16 [d0, d1, d2, d3] [] σ (wI q.1) q.2 ∧ Gr q.2 := by
  have h : (some ((-1), σ)) = some q := h
  refine ev_a (fun he => ev_push rfl he) ?_
  cases h
  exact ⟨ev_retI rfl, hG⟩
def J_X12_gets_49 (N : Nat) (k22 : Int32 → Int32 → Int32 → aSt → Option (Int32 × aSt)) (x1 : Int32) (x2 : Int32) (x3 : Int32) (σ : aSt) : Option (Int32 × aSt) := k22 x1 x2 (x3 + 1) σ
set_option maxRecDepth 20000 in
set_option maxHeartbeats 4000000 in
theorem TJ_X12_gets_49 (xs : Nat → Int32) (L : Nat) (N : Nat) (k22 : Int32 → Int32 → Int32 → aSt → Option (Int32 × aSt)) (hk22 : ∀ (x1 : Int32) (x2 : Int32) (x3 : Int32) (σ : aSt) (q : Int32 × aSt), k22 x1 x2 x3 σ = some q → Gr σ → Ev xs L 169 22 [.ref 235, .int x1, .int x2, .int x3] [] σ (wI q.1) q.2 ∧ Gr q.2) (x1 : Int32) (x2 : Int32) (x3 : Int32) (σ : aSt) (q : Int32 × aSt) (h : J_X12_gets_49 N k22 x1 x2 x3 σ = some q) (hG : Gr σ) : Ev xs L 169 49 [.ref 235, .int x1, .int x2, .int x3] [] σ (wI q.1) q.2 ∧ Gr q.2 := by
  have h : (k22 x1 x2 (x3 + 1) σ) = some q := h
  refine ev_a (fun he => ev_iinc (ls' := [.ref 235, .int x1, .int x2, .int (x3 + 1)]) rfl rfl rfl (Nat.le_of_ble_eq_true rfl) rfl he) ?_
  refine ev_a (fun he => ev_goto rfl he) ?_
  exact hk22 x1 x2 (x3 + 1) σ q h hG
def H_X12_gets_22 (N : Nat) : Nat → Int32 → Int32 → Int32 → aSt → Option (Int32 × aSt)
  | 0, _, _, _, _ => none
  | n + 1, x1, x2, x3, σ => if (aI σ 235 37) ≤ x3 then some (x2, σ) else cO (¬ (x3 < 0 ∨ 24 ≤ x3.toNatClampNeg)) (if (aI σ 259 x3.toNatClampNeg) ≠ x1 then J_X12_gets_49 N (H_X12_gets_22 N n) x1 x2 x3 σ else cO (¬ (x3 < 0 ∨ 24 ≤ x3.toNatClampNeg)) (J_X12_gets_49 N (H_X12_gets_22 N n) x1 (x2 + (aI σ 293 x3.toNatClampNeg)) x3 σ))
set_option maxRecDepth 20000 in
set_option maxHeartbeats 4000000 in
theorem TH_X12_gets_22 (xs : Nat → Int32) (L : Nat) (N : Nat) : ∀ (n : Nat) (x1 : Int32) (x2 : Int32) (x3 : Int32) (σ : aSt) (q : Int32 × aSt), H_X12_gets_22 N n x1 x2 x3 σ = some q → Gr σ → Ev xs L 169 22 [.ref 235, .int x1, .int x2, .int x3] [] σ (wI q.1) q.2 ∧ Gr q.2 := by
  intro n
  induction n with
  | zero =>
    intro x1 x2 x3 σ q h hG
    exact absurd (show (none : Option (Int32 × aSt)) = some q from h) (by simp)
  | succ n ih =>
    intro x1 x2 x3 σ q h hG
    have hk22 : ∀ (x1 : Int32) (x2 : Int32) (x3 : Int32) (σ : aSt) (q : Int32 × aSt), H_X12_gets_22 N n x1 x2 x3 σ = some q → Gr σ → Ev xs L 169 22 [.ref 235, .int x1, .int x2, .int x3] [] σ (wI q.1) q.2 ∧ Gr q.2 := ih
    have h : (if (aI σ 235 37) ≤ x3 then some (x2, σ) else cO (¬ (x3 < 0 ∨ 24 ≤ x3.toNatClampNeg)) (if (aI σ 259 x3.toNatClampNeg) ≠ x1 then J_X12_gets_49 N (H_X12_gets_22 N n) x1 x2 x3 σ else cO (¬ (x3 < 0 ∨ 24 ≤ x3.toNatClampNeg)) (J_X12_gets_49 N (H_X12_gets_22 N n) x1 (x2 + (aI σ 293 x3.toNatClampNeg)) x3 σ))) = some q := h
    refine ev_a (fun he => ev_iload rfl rfl he) ?_
    refine ev_a (fun he => ev_aload rfl rfl he) ?_
    refine ev_a (fun he => ev_getI rfl (gr_ob (n := 80) hG rfl) he) ?_
    refine ev_b (c := (aI σ 235 37) ≤ x3) (fun ht hf => ev_cge rfl ht hf) (fun hc1 => ?_) (fun hc1 => ?_)
    · rw [if_pos hc1] at h
      refine ev_a (fun he => ev_iload rfl rfl he) ?_
      cases h
      exact ⟨ev_retI rfl, hG⟩
    · rw [if_neg hc1] at h
      refine ev_a (fun he => ev_aload rfl rfl he) ?_
      refine ev_a (fun he => ev_getR rfl (gr_ob (n := 80) hG rfl) (gr_p (a := 235) (k := 38) (b := 259) hG rfl) he) ?_
      refine ev_a (fun he => ev_iload rfl rfl he) ?_
      obtain ⟨hc2, h⟩ := cO_inv h
      refine ev_a (fun he => ev_aldI (k := x3.toNatClampNeg) rfl (gr_ar hG rfl) hc2 rfl he) ?_
      refine ev_a (fun he => ev_iload rfl rfl he) ?_
      refine ev_b (c := (aI σ 259 x3.toNatClampNeg) ≠ x1) (fun ht hf => ev_cne rfl ht hf) (fun hc3 => ?_) (fun hc3 => ?_)
      · rw [if_pos hc3] at h
        exact TJ_X12_gets_49 xs L N (H_X12_gets_22 N n) hk22 x1 x2 x3 σ q h hG
      · rw [if_neg hc3] at h
        refine ev_a (fun he => ev_iload rfl rfl he) ?_
        refine ev_a (fun he => ev_aload rfl rfl he) ?_
        refine ev_a (fun he => ev_getR rfl (gr_ob (n := 80) hG rfl) (gr_p (a := 235) (k := 76) (b := 293) hG rfl) he) ?_
        refine ev_a (fun he => ev_iload rfl rfl he) ?_
        obtain ⟨hc4, h⟩ := cO_inv h
        refine ev_a (fun he => ev_aldI (k := x3.toNatClampNeg) rfl (gr_ar hG rfl) hc4 rfl he) ?_
        refine ev_a (fun he => ev_bin (z := x2 + (aI σ 293 x3.toNatClampNeg)) rfl rfl he) ?_
        refine ev_a (fun he => ev_istore (ls' := [.ref 235, .int x1, .int (x2 + (aI σ 293 x3.toNatClampNeg)), .int x3]) rfl (Nat.le_of_ble_eq_true rfl) rfl he) ?_
        exact TJ_X12_gets_49 xs L N (H_X12_gets_22 N n) hk22 x1 (x2 + (aI σ 293 x3.toNatClampNeg)) x3 σ q h hG
def F_X12_gets (N : Nat) (x1 : Int32) (σ : aSt) : Option (Int32 × aSt) := if x1 < 0 then J_X12_gets_16 N σ else if 5 < x1 then J_X12_gets_16 N σ else if (aI σ 235 53) ≠ 0 then H_X12_gets_22 N N x1 0 0 σ else J_X12_gets_16 N σ
set_option maxRecDepth 20000 in
set_option maxHeartbeats 4000000 in
theorem T_X12_gets (xs : Nat → Int32) (L : Nat) (N : Nat) (x1 : Int32) (σ : aSt) (q : Int32 × aSt) (h : F_X12_gets N x1 σ = some q) (hG : Gr σ) : Cal xs L 169 [.ref 235, .int x1] σ (wI q.1) q.2 ∧ Gr q.2 := by
  have h : (if x1 < 0 then J_X12_gets_16 N σ else if 5 < x1 then J_X12_gets_16 N σ else if (aI σ 235 53) ≠ 0 then H_X12_gets_22 N N x1 0 0 σ else J_X12_gets_16 N σ) = some q := h
  show Ev xs L 169 0 [.ref 235, .int x1, aU, aU] [] σ (wI q.1) q.2 ∧ Gr q.2
  refine ev_a (fun he => ev_iload rfl rfl he) ?_
  refine ev_b (c := x1 < 0) (fun ht hf => ev_iflt rfl ht hf) (fun hc5 => ?_) (fun hc5 => ?_)
  · rw [if_pos hc5] at h
    exact TJ_X12_gets_16 xs L N (.ref 235) (.int x1) (aU) (aU) σ q h hG
  · rw [if_neg hc5] at h
    refine ev_a (fun he => ev_iload rfl rfl he) ?_
    refine ev_a (fun he => ev_push rfl he) ?_
    refine ev_b (c := 5 < x1) (fun ht hf => ev_cgt rfl ht hf) (fun hc6 => ?_) (fun hc6 => ?_)
    · rw [if_pos hc6] at h
      exact TJ_X12_gets_16 xs L N (.ref 235) (.int x1) (aU) (aU) σ q h hG
    · rw [if_neg hc6] at h
      refine ev_a (fun he => ev_aload rfl rfl he) ?_
      refine ev_a (fun he => ev_getI rfl (gr_ob (n := 80) hG rfl) he) ?_
      refine ev_b (c := (aI σ 235 53) ≠ 0) (fun ht hf => ev_ifne rfl ht hf) (fun hc7 => ?_) (fun hc7 => ?_)
      · rw [if_pos hc7] at h
        refine ev_a (fun he => ev_push rfl he) ?_
        refine ev_a (fun he => ev_istore (ls' := [.ref 235, .int x1, .int 0, aU]) rfl (Nat.le_of_ble_eq_true rfl) rfl he) ?_
        refine ev_a (fun he => ev_push rfl he) ?_
        refine ev_a (fun he => ev_istore (ls' := [.ref 235, .int x1, .int 0, .int 0]) rfl (Nat.le_of_ble_eq_true rfl) rfl he) ?_
        exact TH_X12_gets_22 xs L N N x1 0 0 σ q h hG
      · rw [if_neg hc7] at h
        exact TJ_X12_gets_16 xs L N (.ref 235) (.int x1) (aU) (aU) σ q h hG
def J_X12_sum_16 (N : Nat) (σ : aSt) : Option (Int32 × aSt) := some ((-1), σ)
set_option maxRecDepth 20000 in
set_option maxHeartbeats 4000000 in
theorem TJ_X12_sum_16 (xs : Nat → Int32) (L : Nat) (N : Nat) (d0 : Value) (d1 : Value) (d2 : Value) (d3 : Value) (d4 : Value) (σ : aSt) (q : Int32 × aSt) (h : J_X12_sum_16 N  σ = some q) (hG : Gr σ) : Ev xs L 170 16 [d0, d1, d2, d3, d4] [] σ (wI q.1) q.2 ∧ Gr q.2 := by
  have h : (some ((-1), σ)) = some q := h
  refine ev_a (fun he => ev_push rfl he) ?_
  cases h
  exact ⟨ev_retI rfl, hG⟩
def J_X12_sum_129 (N : Nat) (k22 : Int32 → Int32 → Int32 → aSt → Option (Int32 × aSt)) (x1 : Int32) (x2 : Int32) (x3 : Int32) (σ : aSt) : Option (Int32 × aSt) := k22 x1 x2 (x3 + 1) σ
set_option maxRecDepth 20000 in
set_option maxHeartbeats 4000000 in
theorem TJ_X12_sum_129 (xs : Nat → Int32) (L : Nat) (N : Nat) (k22 : Int32 → Int32 → Int32 → aSt → Option (Int32 × aSt)) (hk22 : ∀ (x1 : Int32) (x2 : Int32) (x3 : Int32) (d4 : Value) (σ : aSt) (q : Int32 × aSt), k22 x1 x2 x3 σ = some q → Gr σ → Ev xs L 170 22 [.ref 235, .int x1, .int x2, .int x3, d4] [] σ (wI q.1) q.2 ∧ Gr q.2) (x1 : Int32) (x2 : Int32) (x3 : Int32) (d4 : Value) (σ : aSt) (q : Int32 × aSt) (h : J_X12_sum_129 N k22 x1 x2 x3 σ = some q) (hG : Gr σ) : Ev xs L 170 129 [.ref 235, .int x1, .int x2, .int x3, d4] [] σ (wI q.1) q.2 ∧ Gr q.2 := by
  have h : (k22 x1 x2 (x3 + 1) σ) = some q := h
  refine ev_a (fun he => ev_iinc (ls' := [.ref 235, .int x1, .int x2, .int (x3 + 1), d4]) rfl rfl rfl (Nat.le_of_ble_eq_true rfl) rfl he) ?_
  refine ev_a (fun he => ev_goto rfl he) ?_
  exact hk22 x1 x2 (x3 + 1) (d4) σ q h hG
def J_X12_sum_127 (N : Nat) (k22 : Int32 → Int32 → Int32 → aSt → Option (Int32 × aSt)) (x1 : Int32) (x3 : Int32) (s0 : Int32) (s1 : Int32) (σ : aSt) : Option (Int32 × aSt) := J_X12_sum_129 N k22 x1 (s0 + s1) x3 σ
set_option maxRecDepth 20000 in
set_option maxHeartbeats 4000000 in
theorem TJ_X12_sum_127 (xs : Nat → Int32) (L : Nat) (N : Nat) (k22 : Int32 → Int32 → Int32 → aSt → Option (Int32 × aSt)) (hk22 : ∀ (x1 : Int32) (x2 : Int32) (x3 : Int32) (d4 : Value) (σ : aSt) (q : Int32 × aSt), k22 x1 x2 x3 σ = some q → Gr σ → Ev xs L 170 22 [.ref 235, .int x1, .int x2, .int x3, d4] [] σ (wI q.1) q.2 ∧ Gr q.2) (x1 : Int32) (x3 : Int32) (s0 : Int32) (s1 : Int32) (d2 : Value) (d4 : Value) (σ : aSt) (q : Int32 × aSt) (h : J_X12_sum_127 N k22 x1 x3 s0 s1 σ = some q) (hG : Gr σ) : Ev xs L 170 127 [.ref 235, .int x1, d2, .int x3, d4] [.int s1, .int s0] σ (wI q.1) q.2 ∧ Gr q.2 := by
  have h : (J_X12_sum_129 N k22 x1 (s0 + s1) x3 σ) = some q := h
  refine ev_a (fun he => ev_bin (z := s0 + s1) rfl rfl he) ?_
  refine ev_a (fun he => ev_istore (ls' := [.ref 235, .int x1, .int (s0 + s1), .int x3, d4]) rfl (Nat.le_of_ble_eq_true rfl) rfl he) ?_
  exact TJ_X12_sum_129 xs L N k22 hk22 x1 (s0 + s1) x3 (d4) σ q h hG
def J_X12_sum_80 (N : Nat) (k22 : Int32 → Int32 → Int32 → aSt → Option (Int32 × aSt)) (x1 : Int32) (x3 : Int32) (s0 : Int32) (s1 : Int32) (σ : aSt) : Option (Int32 × aSt) := J_X12_sum_129 N k22 x1 (s0 + s1) x3 σ
set_option maxRecDepth 20000 in
set_option maxHeartbeats 4000000 in
theorem TJ_X12_sum_80 (xs : Nat → Int32) (L : Nat) (N : Nat) (k22 : Int32 → Int32 → Int32 → aSt → Option (Int32 × aSt)) (hk22 : ∀ (x1 : Int32) (x2 : Int32) (x3 : Int32) (d4 : Value) (σ : aSt) (q : Int32 × aSt), k22 x1 x2 x3 σ = some q → Gr σ → Ev xs L 170 22 [.ref 235, .int x1, .int x2, .int x3, d4] [] σ (wI q.1) q.2 ∧ Gr q.2) (x1 : Int32) (x3 : Int32) (s0 : Int32) (s1 : Int32) (d2 : Value) (d4 : Value) (σ : aSt) (q : Int32 × aSt) (h : J_X12_sum_80 N k22 x1 x3 s0 s1 σ = some q) (hG : Gr σ) : Ev xs L 170 80 [.ref 235, .int x1, d2, .int x3, d4] [.int s1, .int s0] σ (wI q.1) q.2 ∧ Gr q.2 := by
  have h : (J_X12_sum_129 N k22 x1 (s0 + s1) x3 σ) = some q := h
  refine ev_a (fun he => ev_bin (z := s0 + s1) rfl rfl he) ?_
  refine ev_a (fun he => ev_istore (ls' := [.ref 235, .int x1, .int (s0 + s1), .int x3, d4]) rfl (Nat.le_of_ble_eq_true rfl) rfl he) ?_
  refine ev_a (fun he => ev_goto rfl he) ?_
  exact TJ_X12_sum_129 xs L N k22 hk22 x1 (s0 + s1) x3 (d4) σ q h hG
def H_X12_sum_22 (N : Nat) : Nat → Int32 → Int32 → Int32 → aSt → Option (Int32 × aSt)
  | 0, _, _, _, _ => none
  | n + 1, x1, x2, x3, σ => if (aI σ 235 37) ≤ x3 then some (x2, σ) else cO (¬ (x3 < 0 ∨ 24 ≤ x3.toNatClampNeg)) (cO (¬ (x3 < 0 ∨ 24 ≤ x3.toNatClampNeg)) (cO (¬ (x3 < 0 ∨ 24 ≤ x3.toNatClampNeg)) (if (aI σ 287 x3.toNatClampNeg) ≠ ((-1)) then if x1 ≠ 0 then if x1 ≠ 1 then if x1 ≠ 4 then J_X12_sum_127 N (H_X12_sum_22 N n) x1 x3 x2 0 σ else cO (¬ (x3 < 0 ∨ 24 ≤ x3.toNatClampNeg)) (J_X12_sum_127 N (H_X12_sum_22 N n) x1 x3 x2 (aI σ 262 x3.toNatClampNeg) σ) else cO (¬ (x3 < 0 ∨ 24 ≤ x3.toNatClampNeg)) (J_X12_sum_127 N (H_X12_sum_22 N n) x1 x3 x2 (((aI σ 288 x3.toNatClampNeg) * (aI σ 262 x3.toNatClampNeg)) - (aI σ 293 x3.toNatClampNeg)) σ) else J_X12_sum_127 N (H_X12_sum_22 N n) x1 x3 x2 ((aI σ 288 x3.toNatClampNeg) * (aI σ 262 x3.toNatClampNeg)) σ else if x1 ≠ 2 then if x1 ≠ 3 then J_X12_sum_80 N (H_X12_sum_22 N n) x1 x3 x2 0 σ else J_X12_sum_80 N (H_X12_sum_22 N n) x1 x3 x2 1 σ else cO (¬ (x3 < 0 ∨ 24 ≤ x3.toNatClampNeg)) (J_X12_sum_80 N (H_X12_sum_22 N n) x1 x3 x2 (aI σ 293 x3.toNatClampNeg) σ))))
set_option maxRecDepth 20000 in
set_option maxHeartbeats 4000000 in
theorem TH_X12_sum_22 (xs : Nat → Int32) (L : Nat) (N : Nat) : ∀ (n : Nat) (x1 : Int32) (x2 : Int32) (x3 : Int32) (d4 : Value) (σ : aSt) (q : Int32 × aSt), H_X12_sum_22 N n x1 x2 x3 σ = some q → Gr σ → Ev xs L 170 22 [.ref 235, .int x1, .int x2, .int x3, d4] [] σ (wI q.1) q.2 ∧ Gr q.2 := by
  intro n
  induction n with
  | zero =>
    intro x1 x2 x3 d4 σ q h hG
    exact absurd (show (none : Option (Int32 × aSt)) = some q from h) (by simp)
  | succ n ih =>
    intro x1 x2 x3 d4 σ q h hG
    have hk22 : ∀ (x1 : Int32) (x2 : Int32) (x3 : Int32) (d4 : Value) (σ : aSt) (q : Int32 × aSt), H_X12_sum_22 N n x1 x2 x3 σ = some q → Gr σ → Ev xs L 170 22 [.ref 235, .int x1, .int x2, .int x3, d4] [] σ (wI q.1) q.2 ∧ Gr q.2 := ih
    have h : (if (aI σ 235 37) ≤ x3 then some (x2, σ) else cO (¬ (x3 < 0 ∨ 24 ≤ x3.toNatClampNeg)) (cO (¬ (x3 < 0 ∨ 24 ≤ x3.toNatClampNeg)) (cO (¬ (x3 < 0 ∨ 24 ≤ x3.toNatClampNeg)) (if (aI σ 287 x3.toNatClampNeg) ≠ ((-1)) then if x1 ≠ 0 then if x1 ≠ 1 then if x1 ≠ 4 then J_X12_sum_127 N (H_X12_sum_22 N n) x1 x3 x2 0 σ else cO (¬ (x3 < 0 ∨ 24 ≤ x3.toNatClampNeg)) (J_X12_sum_127 N (H_X12_sum_22 N n) x1 x3 x2 (aI σ 262 x3.toNatClampNeg) σ) else cO (¬ (x3 < 0 ∨ 24 ≤ x3.toNatClampNeg)) (J_X12_sum_127 N (H_X12_sum_22 N n) x1 x3 x2 (((aI σ 288 x3.toNatClampNeg) * (aI σ 262 x3.toNatClampNeg)) - (aI σ 293 x3.toNatClampNeg)) σ) else J_X12_sum_127 N (H_X12_sum_22 N n) x1 x3 x2 ((aI σ 288 x3.toNatClampNeg) * (aI σ 262 x3.toNatClampNeg)) σ else if x1 ≠ 2 then if x1 ≠ 3 then J_X12_sum_80 N (H_X12_sum_22 N n) x1 x3 x2 0 σ else J_X12_sum_80 N (H_X12_sum_22 N n) x1 x3 x2 1 σ else cO (¬ (x3 < 0 ∨ 24 ≤ x3.toNatClampNeg)) (J_X12_sum_80 N (H_X12_sum_22 N n) x1 x3 x2 (aI σ 293 x3.toNatClampNeg) σ))))) = some q := h
    refine ev_a (fun he => ev_iload rfl rfl he) ?_
    refine ev_a (fun he => ev_aload rfl rfl he) ?_
    refine ev_a (fun he => ev_getI rfl (gr_ob (n := 80) hG rfl) he) ?_
    refine ev_b (c := (aI σ 235 37) ≤ x3) (fun ht hf => ev_cge rfl ht hf) (fun hc1 => ?_) (fun hc1 => ?_)
    · rw [if_pos hc1] at h
      refine ev_a (fun he => ev_iload rfl rfl he) ?_
      cases h
      exact ⟨ev_retI rfl, hG⟩
    · rw [if_neg hc1] at h
      refine ev_a (fun he => ev_aload rfl rfl he) ?_
      refine ev_a (fun he => ev_getR rfl (gr_ob (n := 80) hG rfl) (gr_p (a := 235) (k := 71) (b := 288) hG rfl) he) ?_
      refine ev_a (fun he => ev_iload rfl rfl he) ?_
      obtain ⟨hc2, h⟩ := cO_inv h
      refine ev_a (fun he => ev_aldI (k := x3.toNatClampNeg) rfl (gr_ar hG rfl) hc2 rfl he) ?_
      refine ev_a (fun he => ev_aload rfl rfl he) ?_
      refine ev_a (fun he => ev_getR rfl (gr_ob (n := 80) hG rfl) (gr_p (a := 235) (k := 41) (b := 262) hG rfl) he) ?_
      refine ev_a (fun he => ev_iload rfl rfl he) ?_
      obtain ⟨hc3, h⟩ := cO_inv h
      refine ev_a (fun he => ev_aldI (k := x3.toNatClampNeg) rfl (gr_ar hG rfl) hc3 rfl he) ?_
      refine ev_a (fun he => ev_bin (z := (aI σ 288 x3.toNatClampNeg) * (aI σ 262 x3.toNatClampNeg)) rfl rfl he) ?_
      refine ev_a (fun he => ev_istore (ls' := [.ref 235, .int x1, .int x2, .int x3, .int ((aI σ 288 x3.toNatClampNeg) * (aI σ 262 x3.toNatClampNeg))]) rfl (Nat.le_of_ble_eq_true rfl) rfl he) ?_
      refine ev_a (fun he => ev_aload rfl rfl he) ?_
      refine ev_a (fun he => ev_getR rfl (gr_ob (n := 80) hG rfl) (gr_p (a := 235) (k := 70) (b := 287) hG rfl) he) ?_
      refine ev_a (fun he => ev_iload rfl rfl he) ?_
      obtain ⟨hc4, h⟩ := cO_inv h
      refine ev_a (fun he => ev_aldI (k := x3.toNatClampNeg) rfl (gr_ar hG rfl) hc4 rfl he) ?_
      refine ev_a (fun he => ev_push rfl he) ?_
      refine ev_b (c := (aI σ 287 x3.toNatClampNeg) ≠ ((-1))) (fun ht hf => ev_cne rfl ht hf) (fun hc5 => ?_) (fun hc5 => ?_)
      · rw [if_pos hc5] at h
        refine ev_a (fun he => ev_iload rfl rfl he) ?_
        refine ev_a (fun he => ev_iload rfl rfl he) ?_
        refine ev_b (c := x1 ≠ 0) (fun ht hf => ev_ifne rfl ht hf) (fun hc6 => ?_) (fun hc6 => ?_)
        · rw [if_pos hc6] at h
          refine ev_a (fun he => ev_iload rfl rfl he) ?_
          refine ev_a (fun he => ev_push rfl he) ?_
          refine ev_b (c := x1 ≠ 1) (fun ht hf => ev_cne rfl ht hf) (fun hc7 => ?_) (fun hc7 => ?_)
          · rw [if_pos hc7] at h
            refine ev_a (fun he => ev_iload rfl rfl he) ?_
            refine ev_a (fun he => ev_push rfl he) ?_
            refine ev_b (c := x1 ≠ 4) (fun ht hf => ev_cne rfl ht hf) (fun hc8 => ?_) (fun hc8 => ?_)
            · rw [if_pos hc8] at h
              refine ev_a (fun he => ev_push rfl he) ?_
              exact TJ_X12_sum_127 xs L N (H_X12_sum_22 N n) hk22 x1 x3 x2 0 (.int x2) (.int ((aI σ 288 x3.toNatClampNeg) * (aI σ 262 x3.toNatClampNeg))) σ q h hG
            · rw [if_neg hc8] at h
              refine ev_a (fun he => ev_aload rfl rfl he) ?_
              refine ev_a (fun he => ev_getR rfl (gr_ob (n := 80) hG rfl) (gr_p (a := 235) (k := 41) (b := 262) hG rfl) he) ?_
              refine ev_a (fun he => ev_iload rfl rfl he) ?_
              obtain ⟨hc9, h⟩ := cO_inv h
              refine ev_a (fun he => ev_aldI (k := x3.toNatClampNeg) rfl (gr_ar hG rfl) hc9 rfl he) ?_
              refine ev_a (fun he => ev_goto rfl he) ?_
              exact TJ_X12_sum_127 xs L N (H_X12_sum_22 N n) hk22 x1 x3 x2 (aI σ 262 x3.toNatClampNeg) (.int x2) (.int ((aI σ 288 x3.toNatClampNeg) * (aI σ 262 x3.toNatClampNeg))) σ q h hG
          · rw [if_neg hc7] at h
            refine ev_a (fun he => ev_iload rfl rfl he) ?_
            refine ev_a (fun he => ev_aload rfl rfl he) ?_
            refine ev_a (fun he => ev_getR rfl (gr_ob (n := 80) hG rfl) (gr_p (a := 235) (k := 76) (b := 293) hG rfl) he) ?_
            refine ev_a (fun he => ev_iload rfl rfl he) ?_
            obtain ⟨hc10, h⟩ := cO_inv h
            refine ev_a (fun he => ev_aldI (k := x3.toNatClampNeg) rfl (gr_ar hG rfl) hc10 rfl he) ?_
            refine ev_a (fun he => ev_bin (z := ((aI σ 288 x3.toNatClampNeg) * (aI σ 262 x3.toNatClampNeg)) - (aI σ 293 x3.toNatClampNeg)) rfl rfl he) ?_
            refine ev_a (fun he => ev_goto rfl he) ?_
            exact TJ_X12_sum_127 xs L N (H_X12_sum_22 N n) hk22 x1 x3 x2 (((aI σ 288 x3.toNatClampNeg) * (aI σ 262 x3.toNatClampNeg)) - (aI σ 293 x3.toNatClampNeg)) (.int x2) (.int ((aI σ 288 x3.toNatClampNeg) * (aI σ 262 x3.toNatClampNeg))) σ q h hG
        · rw [if_neg hc6] at h
          refine ev_a (fun he => ev_iload rfl rfl he) ?_
          refine ev_a (fun he => ev_goto rfl he) ?_
          exact TJ_X12_sum_127 xs L N (H_X12_sum_22 N n) hk22 x1 x3 x2 ((aI σ 288 x3.toNatClampNeg) * (aI σ 262 x3.toNatClampNeg)) (.int x2) (.int ((aI σ 288 x3.toNatClampNeg) * (aI σ 262 x3.toNatClampNeg))) σ q h hG
      · rw [if_neg hc5] at h
        refine ev_a (fun he => ev_iload rfl rfl he) ?_
        refine ev_a (fun he => ev_iload rfl rfl he) ?_
        refine ev_a (fun he => ev_push rfl he) ?_
        refine ev_b (c := x1 ≠ 2) (fun ht hf => ev_cne rfl ht hf) (fun hc11 => ?_) (fun hc11 => ?_)
        · rw [if_pos hc11] at h
          refine ev_a (fun he => ev_iload rfl rfl he) ?_
          refine ev_a (fun he => ev_push rfl he) ?_
          refine ev_b (c := x1 ≠ 3) (fun ht hf => ev_cne rfl ht hf) (fun hc12 => ?_) (fun hc12 => ?_)
          · rw [if_pos hc12] at h
            refine ev_a (fun he => ev_push rfl he) ?_
            exact TJ_X12_sum_80 xs L N (H_X12_sum_22 N n) hk22 x1 x3 x2 0 (.int x2) (.int ((aI σ 288 x3.toNatClampNeg) * (aI σ 262 x3.toNatClampNeg))) σ q h hG
          · rw [if_neg hc12] at h
            refine ev_a (fun he => ev_push rfl he) ?_
            refine ev_a (fun he => ev_goto rfl he) ?_
            exact TJ_X12_sum_80 xs L N (H_X12_sum_22 N n) hk22 x1 x3 x2 1 (.int x2) (.int ((aI σ 288 x3.toNatClampNeg) * (aI σ 262 x3.toNatClampNeg))) σ q h hG
        · rw [if_neg hc11] at h
          refine ev_a (fun he => ev_aload rfl rfl he) ?_
          refine ev_a (fun he => ev_getR rfl (gr_ob (n := 80) hG rfl) (gr_p (a := 235) (k := 76) (b := 293) hG rfl) he) ?_
          refine ev_a (fun he => ev_iload rfl rfl he) ?_
          obtain ⟨hc13, h⟩ := cO_inv h
          refine ev_a (fun he => ev_aldI (k := x3.toNatClampNeg) rfl (gr_ar hG rfl) hc13 rfl he) ?_
          refine ev_a (fun he => ev_goto rfl he) ?_
          exact TJ_X12_sum_80 xs L N (H_X12_sum_22 N n) hk22 x1 x3 x2 (aI σ 293 x3.toNatClampNeg) (.int x2) (.int ((aI σ 288 x3.toNatClampNeg) * (aI σ 262 x3.toNatClampNeg))) σ q h hG
def F_X12_sum (N : Nat) (x1 : Int32) (σ : aSt) : Option (Int32 × aSt) := if (aI σ 235 53) = 0 then J_X12_sum_16 N σ else if x1 < 0 then J_X12_sum_16 N σ else if x1 ≤ 4 then H_X12_sum_22 N N x1 0 0 σ else J_X12_sum_16 N σ
set_option maxRecDepth 20000 in
set_option maxHeartbeats 4000000 in
theorem T_X12_sum (xs : Nat → Int32) (L : Nat) (N : Nat) (x1 : Int32) (σ : aSt) (q : Int32 × aSt) (h : F_X12_sum N x1 σ = some q) (hG : Gr σ) : Cal xs L 170 [.ref 235, .int x1] σ (wI q.1) q.2 ∧ Gr q.2 := by
  have h : (if (aI σ 235 53) = 0 then J_X12_sum_16 N σ else if x1 < 0 then J_X12_sum_16 N σ else if x1 ≤ 4 then H_X12_sum_22 N N x1 0 0 σ else J_X12_sum_16 N σ) = some q := h
  show Ev xs L 170 0 [.ref 235, .int x1, aU, aU, aU] [] σ (wI q.1) q.2 ∧ Gr q.2
  refine ev_a (fun he => ev_aload rfl rfl he) ?_
  refine ev_a (fun he => ev_getI rfl (gr_ob (n := 80) hG rfl) he) ?_
  refine ev_b (c := (aI σ 235 53) = 0) (fun ht hf => ev_ifeq rfl ht hf) (fun hc14 => ?_) (fun hc14 => ?_)
  · rw [if_pos hc14] at h
    exact TJ_X12_sum_16 xs L N (.ref 235) (.int x1) (aU) (aU) (aU) σ q h hG
  · rw [if_neg hc14] at h
    refine ev_a (fun he => ev_iload rfl rfl he) ?_
    refine ev_b (c := x1 < 0) (fun ht hf => ev_iflt rfl ht hf) (fun hc15 => ?_) (fun hc15 => ?_)
    · rw [if_pos hc15] at h
      exact TJ_X12_sum_16 xs L N (.ref 235) (.int x1) (aU) (aU) (aU) σ q h hG
    · rw [if_neg hc15] at h
      refine ev_a (fun he => ev_iload rfl rfl he) ?_
      refine ev_a (fun he => ev_push rfl he) ?_
      refine ev_b (c := x1 ≤ 4) (fun ht hf => ev_cle rfl ht hf) (fun hc16 => ?_) (fun hc16 => ?_)
      · rw [if_pos hc16] at h
        refine ev_a (fun he => ev_push rfl he) ?_
        refine ev_a (fun he => ev_istore (ls' := [.ref 235, .int x1, .int 0, aU, aU]) rfl (Nat.le_of_ble_eq_true rfl) rfl he) ?_
        refine ev_a (fun he => ev_push rfl he) ?_
        refine ev_a (fun he => ev_istore (ls' := [.ref 235, .int x1, .int 0, .int 0, aU]) rfl (Nat.le_of_ble_eq_true rfl) rfl he) ?_
        exact TH_X12_sum_22 xs L N N x1 0 0 (aU) σ q h hG
      · rw [if_neg hc16] at h
        exact TJ_X12_sum_16 xs L N (.ref 235) (.int x1) (aU) (aU) (aU) σ q h hG
