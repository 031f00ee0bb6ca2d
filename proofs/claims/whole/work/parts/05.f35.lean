def J_X12_without_15 (N : Nat) (σ : aSt) : Option (Int32 × aSt) := some ((-1), σ)
set_option maxRecDepth 20000 in
set_option maxHeartbeats 4000000 in
theorem TJ_X12_without_15 (xs : Nat → Int32) (L : Nat) (N : Nat) (d0 : Value) (d1 : Value) (d2 : Value) (d3 : Value) (d4 : Value) (σ : aSt) (q : Int32 × aSt) (h : J_X12_without_15 N  σ = some q) (hG : Gr σ) : Ev xs L 171 15 [d0, d1, d2, d3, d4] [] σ (wI q.1) q.2 ∧ Gr q.2 := by
  have h : (some ((-1), σ)) = some q := h
  refine ev_a (fun he => ev_push rfl he) ?_
  cases h
  exact ⟨ev_retI rfl, hG⟩
def J_X12_without_57 (N : Nat) (x3 : Int32) (σ : aSt) : Option (Int32 × aSt) := some (x3, σ)
set_option maxRecDepth 20000 in
set_option maxHeartbeats 4000000 in
theorem TJ_X12_without_57 (xs : Nat → Int32) (L : Nat) (N : Nat) (x3 : Int32) (d0 : Value) (d1 : Value) (d2 : Value) (d4 : Value) (σ : aSt) (q : Int32 × aSt) (h : J_X12_without_57 N x3 σ = some q) (hG : Gr σ) : Ev xs L 171 57 [d0, d1, d2, .int x3, d4] [] σ (wI q.1) q.2 ∧ Gr q.2 := by
  have h : (some (x3, σ)) = some q := h
  refine ev_a (fun he => ev_iload rfl rfl he) ?_
  cases h
  exact ⟨ev_retI rfl, hG⟩
def H_X12_without_28 (N : Nat) : Nat → Int32 → Int32 → Int32 → aSt → Option (Int32 × aSt)
  | 0, _, _, _, _ => none
  | n + 1, x2, x3, x4, σ => if (aI σ 235 37) ≤ x4 then J_X12_without_57 N x3 σ else if x2 = ((-1)) then J_X12_without_57 N x3 σ else oB (F_X12_brings N x4 σ) fun y3 σ4 => (H_X12_without_28 N n) x2 (x3 + y3) (x4 + 1) σ4
set_option maxRecDepth 20000 in
set_option maxHeartbeats 4000000 in
theorem TH_X12_without_28 (xs : Nat → Int32) (L : Nat) (N : Nat) : ∀ (n : Nat) (x2 : Int32) (x3 : Int32) (x4 : Int32) (d1 : Value) (σ : aSt) (q : Int32 × aSt), H_X12_without_28 N n x2 x3 x4 σ = some q → Gr σ → Ev xs L 171 28 [.ref 235, d1, .int x2, .int x3, .int x4] [] σ (wI q.1) q.2 ∧ Gr q.2 := by
  intro n
  induction n with
  | zero =>
    intro x2 x3 x4 d1 σ q h hG
    exact absurd (show (none : Option (Int32 × aSt)) = some q from h) (by simp)
  | succ n ih =>
    intro x2 x3 x4 d1 σ q h hG
    have hk28 : ∀ (x2 : Int32) (x3 : Int32) (x4 : Int32) (d1 : Value) (σ : aSt) (q : Int32 × aSt), H_X12_without_28 N n x2 x3 x4 σ = some q → Gr σ → Ev xs L 171 28 [.ref 235, d1, .int x2, .int x3, .int x4] [] σ (wI q.1) q.2 ∧ Gr q.2 := ih
    have h : (if (aI σ 235 37) ≤ x4 then J_X12_without_57 N x3 σ else if x2 = ((-1)) then J_X12_without_57 N x3 σ else oB (F_X12_brings N x4 σ) fun y3 σ4 => (H_X12_without_28 N n) x2 (x3 + y3) (x4 + 1) σ4) = some q := h
    refine ev_a (fun he => ev_iload rfl rfl he) ?_
    refine ev_a (fun he => ev_aload rfl rfl he) ?_
    refine ev_a (fun he => ev_getI rfl (gr_ob (n := 80) hG rfl) he) ?_
    refine ev_b (c := (aI σ 235 37) ≤ x4) (fun ht hf => ev_cge rfl ht hf) (fun hc1 => ?_) (fun hc1 => ?_)
    · rw [if_pos hc1] at h
      exact TJ_X12_without_57 xs L N x3 (.ref 235) (d1) (.int x2) (.int x4) σ q h hG
    · rw [if_neg hc1] at h
      refine ev_a (fun he => ev_iload rfl rfl he) ?_
      refine ev_a (fun he => ev_push rfl he) ?_
      refine ev_b (c := x2 = ((-1))) (fun ht hf => ev_ceq rfl ht hf) (fun hc2 => ?_) (fun hc2 => ?_)
      · rw [if_pos hc2] at h
        exact TJ_X12_without_57 xs L N x3 (.ref 235) (d1) (.int x2) (.int x4) σ q h hG
      · rw [if_neg hc2] at h
        refine ev_a (fun he => ev_iload rfl rfl he) ?_
        refine ev_a (fun he => ev_aload rfl rfl he) ?_
        refine ev_a (fun he => ev_iload rfl rfl he) ?_
        obtain ⟨y3, σ4, h5, h⟩ := oB_inv h
        obtain ⟨c6, hG7⟩ := T_X12_brings xs L N x4 σ (y3, σ4) h5 hG
        refine ev_a (fun he => ev_callV (as := [.int x4]) rfl (gr_ob (n := 80) hG rfl) rfl rfl rfl (Nat.le_of_ble_eq_true rfl) (Nat.le_of_ble_eq_true rfl) c6 he) ?_
        refine ev_a (fun he => ev_bin (z := x3 + y3) rfl rfl he) ?_
        refine ev_a (fun he => ev_istore (ls' := [.ref 235, d1, .int x2, .int (x3 + y3), .int x4]) rfl (Nat.le_of_ble_eq_true rfl) rfl he) ?_
        refine ev_a (fun he => ev_iinc (ls' := [.ref 235, d1, .int x2, .int (x3 + y3), .int (x4 + 1)]) rfl rfl rfl (Nat.le_of_ble_eq_true rfl) rfl he) ?_
        refine ev_a (fun he => ev_goto rfl he) ?_
        exact hk28 x2 (x3 + y3) (x4 + 1) (d1) σ4 q h hG7
def F_X12_without (N : Nat) (x1 : Int32) (σ : aSt) : Option (Int32 × aSt) := oB (F_X12_isBuyer N x1 σ) fun y8 σ9 => if y8 = 0 then J_X12_without_15 N σ9 else if (aI σ9 235 53) ≠ 0 then oB (F_X12_goes N x1 σ9) fun y15 σ16 => H_X12_without_28 N N y15 0 0 σ16 else J_X12_without_15 N σ9
set_option maxRecDepth 20000 in
set_option maxHeartbeats 4000000 in
theorem T_X12_without (xs : Nat → Int32) (L : Nat) (N : Nat) (x1 : Int32) (σ : aSt) (q : Int32 × aSt) (h : F_X12_without N x1 σ = some q) (hG : Gr σ) : Cal xs L 171 [.ref 235, .int x1] σ (wI q.1) q.2 ∧ Gr q.2 := by
  have h : (oB (F_X12_isBuyer N x1 σ) fun y8 σ9 => if y8 = 0 then J_X12_without_15 N σ9 else if (aI σ9 235 53) ≠ 0 then oB (F_X12_goes N x1 σ9) fun y15 σ16 => H_X12_without_28 N N y15 0 0 σ16 else J_X12_without_15 N σ9) = some q := h
  show Ev xs L 171 0 [.ref 235, .int x1, aU, aU, aU] [] σ (wI q.1) q.2 ∧ Gr q.2
  refine ev_a (fun he => ev_aload rfl rfl he) ?_
  refine ev_a (fun he => ev_iload rfl rfl he) ?_
  obtain ⟨y8, σ9, h10, h⟩ := oB_inv h
  obtain ⟨c11, hG12⟩ := T_X12_isBuyer xs L N x1 σ (y8, σ9) h10 hG
  refine ev_a (fun he => ev_callV (as := [.int x1]) rfl (gr_ob (n := 80) hG rfl) rfl rfl rfl (Nat.le_of_ble_eq_true rfl) (Nat.le_of_ble_eq_true rfl) c11 he) ?_
  refine ev_b (c := y8 = 0) (fun ht hf => ev_ifeq rfl ht hf) (fun hc13 => ?_) (fun hc13 => ?_)
  · rw [if_pos hc13] at h
    exact TJ_X12_without_15 xs L N (.ref 235) (.int x1) (aU) (aU) (aU) σ9 q h hG12
  · rw [if_neg hc13] at h
    refine ev_a (fun he => ev_aload rfl rfl he) ?_
    refine ev_a (fun he => ev_getI rfl (gr_ob (n := 80) hG12 rfl) he) ?_
    refine ev_b (c := (aI σ9 235 53) ≠ 0) (fun ht hf => ev_ifne rfl ht hf) (fun hc14 => ?_) (fun hc14 => ?_)
    · rw [if_pos hc14] at h
      refine ev_a (fun he => ev_aload rfl rfl he) ?_
      refine ev_a (fun he => ev_iload rfl rfl he) ?_
      obtain ⟨y15, σ16, h17, h⟩ := oB_inv h
      obtain ⟨c18, hG19⟩ := T_X12_goes xs L N x1 σ9 (y15, σ16) h17 hG12
      refine ev_a (fun he => ev_callV (as := [.int x1]) rfl (gr_ob (n := 80) hG12 rfl) rfl rfl rfl (Nat.le_of_ble_eq_true rfl) (Nat.le_of_ble_eq_true rfl) c18 he) ?_
      refine ev_a (fun he => ev_istore (ls' := [.ref 235, .int x1, .int y15, aU, aU]) rfl (Nat.le_of_ble_eq_true rfl) rfl he) ?_
      refine ev_a (fun he => ev_push rfl he) ?_
      refine ev_a (fun he => ev_istore (ls' := [.ref 235, .int x1, .int y15, .int 0, aU]) rfl (Nat.le_of_ble_eq_true rfl) rfl he) ?_
      refine ev_a (fun he => ev_push rfl he) ?_
      refine ev_a (fun he => ev_istore (ls' := [.ref 235, .int x1, .int y15, .int 0, .int 0]) rfl (Nat.le_of_ble_eq_true rfl) rfl he) ?_
      exact TH_X12_without_28 xs L N N y15 0 0 (.int x1) σ16 q h hG19
    · rw [if_neg hc14] at h
      exact TJ_X12_without_15 xs L N (.ref 235) (.int x1) (aU) (aU) (aU) σ9 q h hG12
def J_X12_load_19 (N : Nat) (σ : aSt) : Option (Int32 × aSt) := some ((-1), σ)
set_option maxRecDepth 20000 in
set_option maxHeartbeats 4000000 in
theorem TJ_X12_load_19 (xs : Nat → Int32) (L : Nat) (N : Nat) (d0 : Value) (d1 : Value) (d2 : Value) (d3 : Value) (d4 : Value) (d5 : Value) (σ : aSt) (q : Int32 × aSt) (h : J_X12_load_19 N  σ = some q) (hG : Gr σ) : Ev xs L 172 19 [d0, d1, d2, d3, d4, d5] [] σ (wI q.1) q.2 ∧ Gr q.2 := by
  have h : (some ((-1), σ)) = some q := h
  refine ev_a (fun he => ev_push rfl he) ?_
  cases h
  exact ⟨ev_retI rfl, hG⟩
def J_X12_load_106 (N : Nat) (s0 : Int32) (σ : aSt) : Option (Int32 × aSt) := some (s0, σ)
set_option maxRecDepth 20000 in
set_option maxHeartbeats 4000000 in
theorem TJ_X12_load_106 (xs : Nat → Int32) (L : Nat) (N : Nat) (s0 : Int32) (d0 : Value) (d1 : Value) (d2 : Value) (d3 : Value) (d4 : Value) (d5 : Value) (σ : aSt) (q : Int32 × aSt) (h : J_X12_load_106 N s0 σ = some q) (hG : Gr σ) : Ev xs L 172 106 [d0, d1, d2, d3, d4, d5] [.int s0] σ (wI q.1) q.2 ∧ Gr q.2 := by
  have h : (some (s0, σ)) = some q := h
  cases h
  exact ⟨ev_retI rfl, hG⟩
def J_X12_load_81 (N : Nat) (k33 : Int32 → Int32 → Int32 → Int32 → Int32 → aSt → Option (Int32 × aSt)) (x1 : Int32) (x2 : Int32) (x3 : Int32) (x4 : Int32) (x5 : Int32) (σ : aSt) : Option (Int32 × aSt) := k33 x1 x2 x3 x4 (x5 + 1) σ
set_option maxRecDepth 20000 in
set_option maxHeartbeats 4000000 in
theorem TJ_X12_load_81 (xs : Nat → Int32) (L : Nat) (N : Nat) (k33 : Int32 → Int32 → Int32 → Int32 → Int32 → aSt → Option (Int32 × aSt)) (hk33 : ∀ (x1 : Int32) (x2 : Int32) (x3 : Int32) (x4 : Int32) (x5 : Int32) (σ : aSt) (q : Int32 × aSt), k33 x1 x2 x3 x4 x5 σ = some q → Gr σ → Ev xs L 172 33 [.ref 235, .int x1, .int x2, .int x3, .int x4, .int x5] [] σ (wI q.1) q.2 ∧ Gr q.2) (x1 : Int32) (x2 : Int32) (x3 : Int32) (x4 : Int32) (x5 : Int32) (σ : aSt) (q : Int32 × aSt) (h : J_X12_load_81 N k33 x1 x2 x3 x4 x5 σ = some q) (hG : Gr σ) : Ev xs L 172 81 [.ref 235, .int x1, .int x2, .int x3, .int x4, .int x5] [] σ (wI q.1) q.2 ∧ Gr q.2 := by
  have h : (k33 x1 x2 x3 x4 (x5 + 1) σ) = some q := h
  refine ev_a (fun he => ev_iinc (ls' := [.ref 235, .int x1, .int x2, .int x3, .int x4, .int (x5 + 1)]) rfl rfl rfl (Nat.le_of_ble_eq_true rfl) rfl he) ?_
  refine ev_a (fun he => ev_goto rfl he) ?_
  exact hk33 x1 x2 x3 x4 (x5 + 1) σ q h hG
def H_X12_load_33 (N : Nat) : Nat → Int32 → Int32 → Int32 → Int32 → Int32 → aSt → Option (Int32 × aSt)
  | 0, _, _, _, _, _, _ => none
  | n + 1, x1, x2, x3, x4, x5, σ => if (aI σ 235 37) ≤ x5 then if x2 ≠ 0 then if x2 ≠ 1 then J_X12_load_106 N ((-1)) σ else J_X12_load_106 N x4 σ else J_X12_load_106 N x3 σ else cO (¬ (x5 < 0 ∨ 24 ≤ x5.toNatClampNeg)) (if (aI σ 294 x5.toNatClampNeg) = x1 then if x2 ≠ (10 + x4) then cO (¬ (x5 < 0 ∨ 24 ≤ x5.toNatClampNeg)) (J_X12_load_81 N (H_X12_load_33 N n) x1 x2 (x3 + (aI σ 262 x5.toNatClampNeg)) (x4 + 1) x5 σ) else some (x5, σ) else J_X12_load_81 N (H_X12_load_33 N n) x1 x2 x3 x4 x5 σ)
set_option maxRecDepth 20000 in
set_option maxHeartbeats 4000000 in
theorem TH_X12_load_33 (xs : Nat → Int32) (L : Nat) (N : Nat) : ∀ (n : Nat) (x1 : Int32) (x2 : Int32) (x3 : Int32) (x4 : Int32) (x5 : Int32) (σ : aSt) (q : Int32 × aSt), H_X12_load_33 N n x1 x2 x3 x4 x5 σ = some q → Gr σ → Ev xs L 172 33 [.ref 235, .int x1, .int x2, .int x3, .int x4, .int x5] [] σ (wI q.1) q.2 ∧ Gr q.2 := by
  intro n
  induction n with
  | zero =>
    intro x1 x2 x3 x4 x5 σ q h hG
    exact absurd (show (none : Option (Int32 × aSt)) = some q from h) (by simp)
  | succ n ih =>
    intro x1 x2 x3 x4 x5 σ q h hG
    have hk33 : ∀ (x1 : Int32) (x2 : Int32) (x3 : Int32) (x4 : Int32) (x5 : Int32) (σ : aSt) (q : Int32 × aSt), H_X12_load_33 N n x1 x2 x3 x4 x5 σ = some q → Gr σ → Ev xs L 172 33 [.ref 235, .int x1, .int x2, .int x3, .int x4, .int x5] [] σ (wI q.1) q.2 ∧ Gr q.2 := ih
    have h : (if (aI σ 235 37) ≤ x5 then if x2 ≠ 0 then if x2 ≠ 1 then J_X12_load_106 N ((-1)) σ else J_X12_load_106 N x4 σ else J_X12_load_106 N x3 σ else cO (¬ (x5 < 0 ∨ 24 ≤ x5.toNatClampNeg)) (if (aI σ 294 x5.toNatClampNeg) = x1 then if x2 ≠ (10 + x4) then cO (¬ (x5 < 0 ∨ 24 ≤ x5.toNatClampNeg)) (J_X12_load_81 N (H_X12_load_33 N n) x1 x2 (x3 + (aI σ 262 x5.toNatClampNeg)) (x4 + 1) x5 σ) else some (x5, σ) else J_X12_load_81 N (H_X12_load_33 N n) x1 x2 x3 x4 x5 σ)) = some q := h
    refine ev_a (fun he => ev_iload rfl rfl he) ?_
    refine ev_a (fun he => ev_aload rfl rfl he) ?_
    refine ev_a (fun he => ev_getI rfl (gr_ob (n := 80) hG rfl) he) ?_
    refine ev_b (c := (aI σ 235 37) ≤ x5) (fun ht hf => ev_cge rfl ht hf) (fun hc1 => ?_) (fun hc1 => ?_)
    · rw [if_pos hc1] at h
      refine ev_a (fun he => ev_iload rfl rfl he) ?_
      refine ev_b (c := x2 ≠ 0) (fun ht hf => ev_ifne rfl ht hf) (fun hc2 => ?_) (fun hc2 => ?_)
      · rw [if_pos hc2] at h
        refine ev_a (fun he => ev_iload rfl rfl he) ?_
        refine ev_a (fun he => ev_push rfl he) ?_
        refine ev_b (c := x2 ≠ 1) (fun ht hf => ev_cne rfl ht hf) (fun hc3 => ?_) (fun hc3 => ?_)
        · rw [if_pos hc3] at h
          refine ev_a (fun he => ev_push rfl he) ?_
          exact TJ_X12_load_106 xs L N ((-1)) (.ref 235) (.int x1) (.int x2) (.int x3) (.int x4) (.int x5) σ q h hG
        · rw [if_neg hc3] at h
          refine ev_a (fun he => ev_iload rfl rfl he) ?_
          refine ev_a (fun he => ev_goto rfl he) ?_
          exact TJ_X12_load_106 xs L N x4 (.ref 235) (.int x1) (.int x2) (.int x3) (.int x4) (.int x5) σ q h hG
      · rw [if_neg hc2] at h
        refine ev_a (fun he => ev_iload rfl rfl he) ?_
        refine ev_a (fun he => ev_goto rfl he) ?_
        exact TJ_X12_load_106 xs L N x3 (.ref 235) (.int x1) (.int x2) (.int x3) (.int x4) (.int x5) σ q h hG
    · rw [if_neg hc1] at h
      refine ev_a (fun he => ev_aload rfl rfl he) ?_
      refine ev_a (fun he => ev_getR rfl (gr_ob (n := 80) hG rfl) (gr_p (a := 235) (k := 77) (b := 294) hG rfl) he) ?_
      refine ev_a (fun he => ev_iload rfl rfl he) ?_
      obtain ⟨hc4, h⟩ := cO_inv h
      refine ev_a (fun he => ev_aldI (k := x5.toNatClampNeg) rfl (gr_ar hG rfl) hc4 rfl he) ?_
      refine ev_a (fun he => ev_iload rfl rfl he) ?_
      refine ev_b (c := (aI σ 294 x5.toNatClampNeg) = x1) (fun ht hf => ev_ceq rfl ht hf) (fun hc5 => ?_) (fun hc5 => ?_)
      · rw [if_pos hc5] at h
        refine ev_a (fun he => ev_iload rfl rfl he) ?_
        refine ev_a (fun he => ev_push rfl he) ?_
        refine ev_a (fun he => ev_iload rfl rfl he) ?_
        refine ev_a (fun he => ev_bin (z := 10 + x4) rfl rfl he) ?_
        refine ev_b (c := x2 ≠ (10 + x4)) (fun ht hf => ev_cne rfl ht hf) (fun hc6 => ?_) (fun hc6 => ?_)
        · rw [if_pos hc6] at h
          refine ev_a (fun he => ev_iload rfl rfl he) ?_
          refine ev_a (fun he => ev_aload rfl rfl he) ?_
          refine ev_a (fun he => ev_getR rfl (gr_ob (n := 80) hG rfl) (gr_p (a := 235) (k := 41) (b := 262) hG rfl) he) ?_
          refine ev_a (fun he => ev_iload rfl rfl he) ?_
          obtain ⟨hc7, h⟩ := cO_inv h
          refine ev_a (fun he => ev_aldI (k := x5.toNatClampNeg) rfl (gr_ar hG rfl) hc7 rfl he) ?_
          refine ev_a (fun he => ev_bin (z := x3 + (aI σ 262 x5.toNatClampNeg)) rfl rfl he) ?_
          refine ev_a (fun he => ev_istore (ls' := [.ref 235, .int x1, .int x2, .int (x3 + (aI σ 262 x5.toNatClampNeg)), .int x4, .int x5]) rfl (Nat.le_of_ble_eq_true rfl) rfl he) ?_
          refine ev_a (fun he => ev_iinc (ls' := [.ref 235, .int x1, .int x2, .int (x3 + (aI σ 262 x5.toNatClampNeg)), .int (x4 + 1), .int x5]) rfl rfl rfl (Nat.le_of_ble_eq_true rfl) rfl he) ?_
          exact TJ_X12_load_81 xs L N (H_X12_load_33 N n) hk33 x1 x2 (x3 + (aI σ 262 x5.toNatClampNeg)) (x4 + 1) x5 σ q h hG
        · rw [if_neg hc6] at h
          refine ev_a (fun he => ev_iload rfl rfl he) ?_
          cases h
          exact ⟨ev_retI rfl, hG⟩
      · rw [if_neg hc5] at h
        refine ev_a (fun he => ev_goto rfl he) ?_
        exact TJ_X12_load_81 xs L N (H_X12_load_33 N n) hk33 x1 x2 x3 x4 x5 σ q h hG
def F_X12_load (N : Nat) (x1 : Int32) (x2 : Int32) (σ : aSt) : Option (Int32 × aSt) := if x1 < 0 then J_X12_load_19 N σ else if (aI σ 235 48) ≤ x1 then J_X12_load_19 N σ else if (aI σ 235 53) ≠ 0 then oB (F_X12_loads N σ) fun y11 σ12 => H_X12_load_33 N N x1 x2 0 0 0 σ12 else J_X12_load_19 N σ
set_option maxRecDepth 20000 in
set_option maxHeartbeats 4000000 in
theorem T_X12_load (xs : Nat → Int32) (L : Nat) (N : Nat) (x1 : Int32) (x2 : Int32) (σ : aSt) (q : Int32 × aSt) (h : F_X12_load N x1 x2 σ = some q) (hG : Gr σ) : Cal xs L 172 [.ref 235, .int x1, .int x2] σ (wI q.1) q.2 ∧ Gr q.2 := by
  have h : (if x1 < 0 then J_X12_load_19 N σ else if (aI σ 235 48) ≤ x1 then J_X12_load_19 N σ else if (aI σ 235 53) ≠ 0 then oB (F_X12_loads N σ) fun y11 σ12 => H_X12_load_33 N N x1 x2 0 0 0 σ12 else J_X12_load_19 N σ) = some q := h
  show Ev xs L 172 0 [.ref 235, .int x1, .int x2, aU, aU, aU] [] σ (wI q.1) q.2 ∧ Gr q.2
  refine ev_a (fun he => ev_iload rfl rfl he) ?_
  refine ev_b (c := x1 < 0) (fun ht hf => ev_iflt rfl ht hf) (fun hc8 => ?_) (fun hc8 => ?_)
  · rw [if_pos hc8] at h
    exact TJ_X12_load_19 xs L N (.ref 235) (.int x1) (.int x2) (aU) (aU) (aU) σ q h hG
  · rw [if_neg hc8] at h
    refine ev_a (fun he => ev_iload rfl rfl he) ?_
    refine ev_a (fun he => ev_aload rfl rfl he) ?_
    refine ev_a (fun he => ev_getI rfl (gr_ob (n := 80) hG rfl) he) ?_
    refine ev_b (c := (aI σ 235 48) ≤ x1) (fun ht hf => ev_cge rfl ht hf) (fun hc9 => ?_) (fun hc9 => ?_)
    · rw [if_pos hc9] at h
      exact TJ_X12_load_19 xs L N (.ref 235) (.int x1) (.int x2) (aU) (aU) (aU) σ q h hG
    · rw [if_neg hc9] at h
      refine ev_a (fun he => ev_aload rfl rfl he) ?_
      refine ev_a (fun he => ev_getI rfl (gr_ob (n := 80) hG rfl) he) ?_
      refine ev_b (c := (aI σ 235 53) ≠ 0) (fun ht hf => ev_ifne rfl ht hf) (fun hc10 => ?_) (fun hc10 => ?_)
      · rw [if_pos hc10] at h
        refine ev_a (fun he => ev_aload rfl rfl he) ?_
        obtain ⟨y11, σ12, h13, h⟩ := oB_inv h
        obtain ⟨c14, hG15⟩ := T_X12_loads xs L N σ (y11, σ12) h13 hG
        refine ev_a (fun he => ev_callV (as := []) rfl (gr_ob (n := 80) hG rfl) rfl rfl rfl (Nat.le_of_ble_eq_true rfl) (Nat.le_of_ble_eq_true rfl) c14 he) ?_
        refine ev_a (fun he => ev_push rfl he) ?_
        refine ev_a (fun he => ev_istore (ls' := [.ref 235, .int x1, .int x2, .int 0, aU, aU]) rfl (Nat.le_of_ble_eq_true rfl) rfl he) ?_
        refine ev_a (fun he => ev_push rfl he) ?_
        refine ev_a (fun he => ev_istore (ls' := [.ref 235, .int x1, .int x2, .int 0, .int 0, aU]) rfl (Nat.le_of_ble_eq_true rfl) rfl he) ?_
        refine ev_a (fun he => ev_push rfl he) ?_
        refine ev_a (fun he => ev_istore (ls' := [.ref 235, .int x1, .int x2, .int 0, .int 0, .int 0]) rfl (Nat.le_of_ble_eq_true rfl) rfl he) ?_
        exact TH_X12_load_33 xs L N N x1 x2 0 0 0 σ12 q h hG15
      · rw [if_neg hc10] at h
        exact TJ_X12_load_19 xs L N (.ref 235) (.int x1) (.int x2) (aU) (aU) (aU) σ q h hG
def J_X12_stays_16 (N : Nat) (σ : aSt) : Option (Int32 × aSt) := some ((-1), σ)
set_option maxRecDepth 20000 in
set_option maxHeartbeats 4000000 in
theorem TJ_X12_stays_16 (xs : Nat → Int32) (L : Nat) (N : Nat) (d0 : Value) (d1 : Value) (d2 : Value) (d3 : Value) (σ : aSt) (q : Int32 × aSt) (h : J_X12_stays_16 N  σ = some q) (hG : Gr σ) : Ev xs L 173 16 [d0, d1, d2, d3] [] σ (wI q.1) q.2 ∧ Gr q.2 := by
  have h : (some ((-1), σ)) = some q := h
  refine ev_a (fun he => ev_push rfl he) ?_
  cases h
  exact ⟨ev_retI rfl, hG⟩
def J_X12_stays_78 (N : Nat) (k26 : Int32 → Int32 → Int32 → aSt → Option (Int32 × aSt)) (x1 : Int32) (x2 : Int32) (x3 : Int32) (σ : aSt) : Option (Int32 × aSt) := k26 x1 x2 (x3 + 1) σ
set_option maxRecDepth 20000 in
set_option maxHeartbeats 4000000 in
theorem TJ_X12_stays_78 (xs : Nat → Int32) (L : Nat) (N : Nat) (k26 : Int32 → Int32 → Int32 → aSt → Option (Int32 × aSt)) (hk26 : ∀ (x1 : Int32) (x2 : Int32) (x3 : Int32) (σ : aSt) (q : Int32 × aSt), k26 x1 x2 x3 σ = some q → Gr σ → Ev xs L 173 26 [.ref 235, .int x1, .int x2, .int x3] [] σ (wI q.1) q.2 ∧ Gr q.2) (x1 : Int32) (x2 : Int32) (x3 : Int32) (σ : aSt) (q : Int32 × aSt) (h : J_X12_stays_78 N k26 x1 x2 x3 σ = some q) (hG : Gr σ) : Ev xs L 173 78 [.ref 235, .int x1, .int x2, .int x3] [] σ (wI q.1) q.2 ∧ Gr q.2 := by
  have h : (k26 x1 x2 (x3 + 1) σ) = some q := h
  refine ev_a (fun he => ev_iinc (ls' := [.ref 235, .int x1, .int x2, .int (x3 + 1)]) rfl rfl rfl (Nat.le_of_ble_eq_true rfl) rfl he) ?_
  refine ev_a (fun he => ev_goto rfl he) ?_
  exact hk26 x1 x2 (x3 + 1) σ q h hG
def H_X12_stays_26 (N : Nat) : Nat → Int32 → Int32 → Int32 → aSt → Option (Int32 × aSt)
  | 0, _, _, _, _ => none
  | n + 1, x1, x2, x3, σ => if (aI σ 235 37) ≤ x3 then some (x2, σ) else cO (¬ (x3 < 0 ∨ 24 ≤ x3.toNatClampNeg)) (if (aI σ 287 x3.toNatClampNeg) = ((-1)) then J_X12_stays_78 N (H_X12_stays_26 N n) x1 x2 x3 σ else cO (¬ (x3 < 0 ∨ 24 ≤ x3.toNatClampNeg)) (cO (¬ ((aI σ 287 x3.toNatClampNeg) < 0 ∨ 6 ≤ (aI σ 287 x3.toNatClampNeg).toNatClampNeg)) (if (aI σ 264 (aI σ 287 x3.toNatClampNeg).toNatClampNeg) ≠ x1 then J_X12_stays_78 N (H_X12_stays_26 N n) x1 x2 x3 σ else cO (¬ (x3 < 0 ∨ 24 ≤ x3.toNatClampNeg)) (if (aI σ 294 x3.toNatClampNeg) ≠ ((-1)) then J_X12_stays_78 N (H_X12_stays_26 N n) x1 x2 x3 σ else cO (¬ (x3 < 0 ∨ 24 ≤ x3.toNatClampNeg)) (J_X12_stays_78 N (H_X12_stays_26 N n) x1 (x2 + (aI σ 262 x3.toNatClampNeg)) x3 σ)))))
set_option maxRecDepth 20000 in
set_option maxHeartbeats 4000000 in
theorem TH_X12_stays_26 (xs : Nat → Int32) (L : Nat) (N : Nat) : ∀ (n : Nat) (x1 : Int32) (x2 : Int32) (x3 : Int32) (σ : aSt) (q : Int32 × aSt), H_X12_stays_26 N n x1 x2 x3 σ = some q → Gr σ → Ev xs L 173 26 [.ref 235, .int x1, .int x2, .int x3] [] σ (wI q.1) q.2 ∧ Gr q.2 := by
  intro n
  induction n with
  | zero =>
    intro x1 x2 x3 σ q h hG
    exact absurd (show (none : Option (Int32 × aSt)) = some q from h) (by simp)
  | succ n ih =>
    intro x1 x2 x3 σ q h hG
    have hk26 : ∀ (x1 : Int32) (x2 : Int32) (x3 : Int32) (σ : aSt) (q : Int32 × aSt), H_X12_stays_26 N n x1 x2 x3 σ = some q → Gr σ → Ev xs L 173 26 [.ref 235, .int x1, .int x2, .int x3] [] σ (wI q.1) q.2 ∧ Gr q.2 := ih
    have h : (if (aI σ 235 37) ≤ x3 then some (x2, σ) else cO (¬ (x3 < 0 ∨ 24 ≤ x3.toNatClampNeg)) (if (aI σ 287 x3.toNatClampNeg) = ((-1)) then J_X12_stays_78 N (H_X12_stays_26 N n) x1 x2 x3 σ else cO (¬ (x3 < 0 ∨ 24 ≤ x3.toNatClampNeg)) (cO (¬ ((aI σ 287 x3.toNatClampNeg) < 0 ∨ 6 ≤ (aI σ 287 x3.toNatClampNeg).toNatClampNeg)) (if (aI σ 264 (aI σ 287 x3.toNatClampNeg).toNatClampNeg) ≠ x1 then J_X12_stays_78 N (H_X12_stays_26 N n) x1 x2 x3 σ else cO (¬ (x3 < 0 ∨ 24 ≤ x3.toNatClampNeg)) (if (aI σ 294 x3.toNatClampNeg) ≠ ((-1)) then J_X12_stays_78 N (H_X12_stays_26 N n) x1 x2 x3 σ else cO (¬ (x3 < 0 ∨ 24 ≤ x3.toNatClampNeg)) (J_X12_stays_78 N (H_X12_stays_26 N n) x1 (x2 + (aI σ 262 x3.toNatClampNeg)) x3 σ)))))) = some q := h
    refine ev_a (fun he => ev_iload rfl rfl he) ?_
    refine ev_a (fun he => ev_aload rfl rfl he) ?_
    refine ev_a (fun he => ev_getI rfl (gr_ob (n := 80) hG rfl) he) ?_
    refine ev_b (c := (aI σ 235 37) ≤ x3) (fun ht hf => ev_cge rfl ht hf) (fun hc1 => ?_) (fun hc1 => ?_)
    · rw [if_pos hc1] at h
      refine ev_a (fun he => ev_iload rfl rfl he) ?_
      cases h
      exact ⟨ev_retI rfl, hG⟩
    · rw [if_neg hc1] at h
      refine ev_a (fun he => ev_aload rfl rfl he) ?_
      refine ev_a (fun he => ev_getR rfl (gr_ob (n := 80) hG rfl) (gr_p (a := 235) (k := 70) (b := 287) hG rfl) he) ?_
      refine ev_a (fun he => ev_iload rfl rfl he) ?_
      obtain ⟨hc2, h⟩ := cO_inv h
      refine ev_a (fun he => ev_aldI (k := x3.toNatClampNeg) rfl (gr_ar hG rfl) hc2 rfl he) ?_
      refine ev_a (fun he => ev_push rfl he) ?_
      refine ev_b (c := (aI σ 287 x3.toNatClampNeg) = ((-1))) (fun ht hf => ev_ceq rfl ht hf) (fun hc3 => ?_) (fun hc3 => ?_)
      · rw [if_pos hc3] at h
        exact TJ_X12_stays_78 xs L N (H_X12_stays_26 N n) hk26 x1 x2 x3 σ q h hG
      · rw [if_neg hc3] at h
        refine ev_a (fun he => ev_aload rfl rfl he) ?_
        refine ev_a (fun he => ev_getR rfl (gr_ob (n := 80) hG rfl) (gr_p (a := 235) (k := 44) (b := 264) hG rfl) he) ?_
        refine ev_a (fun he => ev_aload rfl rfl he) ?_
        refine ev_a (fun he => ev_getR rfl (gr_ob (n := 80) hG rfl) (gr_p (a := 235) (k := 70) (b := 287) hG rfl) he) ?_
        refine ev_a (fun he => ev_iload rfl rfl he) ?_
        obtain ⟨hc4, h⟩ := cO_inv h
        refine ev_a (fun he => ev_aldI (k := x3.toNatClampNeg) rfl (gr_ar hG rfl) hc4 rfl he) ?_
        obtain ⟨hc5, h⟩ := cO_inv h
        refine ev_a (fun he => ev_aldI (k := (aI σ 287 x3.toNatClampNeg).toNatClampNeg) rfl (gr_ar hG rfl) hc5 rfl he) ?_
        refine ev_a (fun he => ev_iload rfl rfl he) ?_
        refine ev_b (c := (aI σ 264 (aI σ 287 x3.toNatClampNeg).toNatClampNeg) ≠ x1) (fun ht hf => ev_cne rfl ht hf) (fun hc6 => ?_) (fun hc6 => ?_)
        · rw [if_pos hc6] at h
          exact TJ_X12_stays_78 xs L N (H_X12_stays_26 N n) hk26 x1 x2 x3 σ q h hG
        · rw [if_neg hc6] at h
          refine ev_a (fun he => ev_aload rfl rfl he) ?_
          refine ev_a (fun he => ev_getR rfl (gr_ob (n := 80) hG rfl) (gr_p (a := 235) (k := 77) (b := 294) hG rfl) he) ?_
          refine ev_a (fun he => ev_iload rfl rfl he) ?_
          obtain ⟨hc7, h⟩ := cO_inv h
          refine ev_a (fun he => ev_aldI (k := x3.toNatClampNeg) rfl (gr_ar hG rfl) hc7 rfl he) ?_
          refine ev_a (fun he => ev_push rfl he) ?_
          refine ev_b (c := (aI σ 294 x3.toNatClampNeg) ≠ ((-1))) (fun ht hf => ev_cne rfl ht hf) (fun hc8 => ?_) (fun hc8 => ?_)
          · rw [if_pos hc8] at h
            exact TJ_X12_stays_78 xs L N (H_X12_stays_26 N n) hk26 x1 x2 x3 σ q h hG
          · rw [if_neg hc8] at h
            refine ev_a (fun he => ev_iload rfl rfl he) ?_
            refine ev_a (fun he => ev_aload rfl rfl he) ?_
            refine ev_a (fun he => ev_getR rfl (gr_ob (n := 80) hG rfl) (gr_p (a := 235) (k := 41) (b := 262) hG rfl) he) ?_
            refine ev_a (fun he => ev_iload rfl rfl he) ?_
            obtain ⟨hc9, h⟩ := cO_inv h
            refine ev_a (fun he => ev_aldI (k := x3.toNatClampNeg) rfl (gr_ar hG rfl) hc9 rfl he) ?_
            refine ev_a (fun he => ev_bin (z := x2 + (aI σ 262 x3.toNatClampNeg)) rfl rfl he) ?_
            refine ev_a (fun he => ev_istore (ls' := [.ref 235, .int x1, .int (x2 + (aI σ 262 x3.toNatClampNeg)), .int x3]) rfl (Nat.le_of_ble_eq_true rfl) rfl he) ?_
            exact TJ_X12_stays_78 xs L N (H_X12_stays_26 N n) hk26 x1 (x2 + (aI σ 262 x3.toNatClampNeg)) x3 σ q h hG
def F_X12_stays (N : Nat) (x1 : Int32) (σ : aSt) : Option (Int32 × aSt) := if x1 < 0 then J_X12_stays_16 N σ else if 3 < x1 then J_X12_stays_16 N σ else if (aI σ 235 53) ≠ 0 then oB (F_X12_loads N σ) fun y13 σ14 => H_X12_stays_26 N N x1 0 0 σ14 else J_X12_stays_16 N σ
set_option maxRecDepth 20000 in
set_option maxHeartbeats 4000000 in
theorem T_X12_stays (xs : Nat → Int32) (L : Nat) (N : Nat) (x1 : Int32) (σ : aSt) (q : Int32 × aSt) (h : F_X12_stays N x1 σ = some q) (hG : Gr σ) : Cal xs L 173 [.ref 235, .int x1] σ (wI q.1) q.2 ∧ Gr q.2 := by
  have h : (if x1 < 0 then J_X12_stays_16 N σ else if 3 < x1 then J_X12_stays_16 N σ else if (aI σ 235 53) ≠ 0 then oB (F_X12_loads N σ) fun y13 σ14 => H_X12_stays_26 N N x1 0 0 σ14 else J_X12_stays_16 N σ) = some q := h
  show Ev xs L 173 0 [.ref 235, .int x1, aU, aU] [] σ (wI q.1) q.2 ∧ Gr q.2
  refine ev_a (fun he => ev_iload rfl rfl he) ?_
  refine ev_b (c := x1 < 0) (fun ht hf => ev_iflt rfl ht hf) (fun hc10 => ?_) (fun hc10 => ?_)
  · rw [if_pos hc10] at h
    exact TJ_X12_stays_16 xs L N (.ref 235) (.int x1) (aU) (aU) σ q h hG
  · rw [if_neg hc10] at h
    refine ev_a (fun he => ev_iload rfl rfl he) ?_
    refine ev_a (fun he => ev_push rfl he) ?_
    refine ev_b (c := 3 < x1) (fun ht hf => ev_cgt rfl ht hf) (fun hc11 => ?_) (fun hc11 => ?_)
    · rw [if_pos hc11] at h
      exact TJ_X12_stays_16 xs L N (.ref 235) (.int x1) (aU) (aU) σ q h hG
    · rw [if_neg hc11] at h
      refine ev_a (fun he => ev_aload rfl rfl he) ?_
      refine ev_a (fun he => ev_getI rfl (gr_ob (n := 80) hG rfl) he) ?_
      refine ev_b (c := (aI σ 235 53) ≠ 0) (fun ht hf => ev_ifne rfl ht hf) (fun hc12 => ?_) (fun hc12 => ?_)
      · rw [if_pos hc12] at h
        refine ev_a (fun he => ev_aload rfl rfl he) ?_
        obtain ⟨y13, σ14, h15, h⟩ := oB_inv h
        obtain ⟨c16, hG17⟩ := T_X12_loads xs L N σ (y13, σ14) h15 hG
        refine ev_a (fun he => ev_callV (as := []) rfl (gr_ob (n := 80) hG rfl) rfl rfl rfl (Nat.le_of_ble_eq_true rfl) (Nat.le_of_ble_eq_true rfl) c16 he) ?_
        refine ev_a (fun he => ev_push rfl he) ?_
        refine ev_a (fun he => ev_istore (ls' := [.ref 235, .int x1, .int 0, aU]) rfl (Nat.le_of_ble_eq_true rfl) rfl he) ?_
        refine ev_a (fun he => ev_push rfl he) ?_
        refine ev_a (fun he => ev_istore (ls' := [.ref 235, .int x1, .int 0, .int 0]) rfl (Nat.le_of_ble_eq_true rfl) rfl he) ?_
        exact TH_X12_stays_26 xs L N N x1 0 0 σ14 q h hG17
      · rw [if_neg hc12] at h
        exact TJ_X12_stays_16 xs L N (.ref 235) (.int x1) (aU) (aU) σ q h hG
