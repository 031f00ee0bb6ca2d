def J_X1_isEmpty_13 (N : Nat) (s0 : Int32) (σ : aSt) : Option (Int32 × aSt) := cO (vp_nar .boolean s0 = s0) (some (s0, σ))
set_option maxRecDepth 20000 in
set_option maxHeartbeats 4000000 in
theorem TJ_X1_isEmpty_13 (xs : Nat → Int32) (L : Nat) (N : Nat) (s0 : Int32) (d0 : Value) (σ : aSt) (q : Int32 × aSt) (h : J_X1_isEmpty_13 N s0 σ = some q) (hG : Gr σ) : Ev xs L 2 13 [d0] [.int s0] σ (wI q.1) q.2 ∧ Gr q.2 := by
  have h : (cO (vp_nar .boolean s0 = s0) (some (s0, σ))) = some q := h
  obtain ⟨hc1, h⟩ := cO_inv h
  cases h
  exact ⟨ev_retZ rfl hc1, hG⟩
def F_X1_isEmpty (N : Nat) (x0 : Nat) (σ : aSt) : Option (Int32 × aSt) := if (aI σ x0 0) ≠ ((-1)) then J_X1_isEmpty_13 N 0 σ else J_X1_isEmpty_13 N 1 σ
set_option maxRecDepth 20000 in
set_option maxHeartbeats 4000000 in
theorem T_X1_isEmpty (xs : Nat → Int32) (L : Nat) (N : Nat) (x0 : Nat) (σ : aSt) (q : Int32 × aSt) (h : F_X1_isEmpty N x0 σ = some q) (hG : Gr σ) (hx0 : isCk x0) : Cal xs L 2 [.ref x0] σ (wI q.1) q.2 ∧ Gr q.2 := by
  have h : (if (aI σ x0 0) ≠ ((-1)) then J_X1_isEmpty_13 N 0 σ else J_X1_isEmpty_13 N 1 σ) = some q := h
  show Ev xs L 2 0 [.ref x0] [] σ (wI q.1) q.2 ∧ Gr q.2
  refine ev_a (fun he => ev_aload rfl rfl he) ?_
  refine ev_a (fun he => ev_getI rfl (gr_ob (n := 5) hG (sh_Ck0 hx0)) he) ?_
  refine ev_a (fun he => ev_push rfl he) ?_
  refine ev_b (c := (aI σ x0 0) ≠ ((-1))) (fun ht hf => ev_cne rfl ht hf) (fun hc2 => ?_) (fun hc2 => ?_)
  · rw [if_pos hc2] at h
    refine ev_a (fun he => ev_push rfl he) ?_
    exact TJ_X1_isEmpty_13 xs L N 0 (.ref x0) σ q h hG
  · rw [if_neg hc2] at h
    refine ev_a (fun he => ev_push rfl he) ?_
    refine ev_a (fun he => ev_goto rfl he) ?_
    exact TJ_X1_isEmpty_13 xs L N 1 (.ref x0) σ q h hG
def J_J9_max_7cf53_10 (N : Nat) (s0 : Int32) (σ : aSt) : Option (Int32 × aSt) := some (s0, σ)
set_option maxRecDepth 20000 in
set_option maxHeartbeats 4000000 in
theorem TJ_J9_max_7cf53_10 (xs : Nat → Int32) (L : Nat) (N : Nat) (s0 : Int32) (d0 : Value) (d1 : Value) (σ : aSt) (q : Int32 × aSt) (h : J_J9_max_7cf53_10 N s0 σ = some q) (hG : Gr σ) : Ev xs L 175 10 [d0, d1] [.int s0] σ (wI q.1) q.2 ∧ Gr q.2 := by
  have h : (some (s0, σ)) = some q := h
  cases h
  exact ⟨ev_retI rfl, hG⟩
def F_J9_max_7cf53 (N : Nat) (x0 : Int32) (x1 : Int32) (σ : aSt) : Option (Int32 × aSt) := if x0 < x1 then J_J9_max_7cf53_10 N x1 σ else J_J9_max_7cf53_10 N x0 σ
set_option maxRecDepth 20000 in
set_option maxHeartbeats 4000000 in
theorem T_J9_max_7cf53 (xs : Nat → Int32) (L : Nat) (N : Nat) (x0 : Int32) (x1 : Int32) (σ : aSt) (q : Int32 × aSt) (h : F_J9_max_7cf53 N x0 x1 σ = some q) (hG : Gr σ) : Cal xs L 175 [.int x0, .int x1] σ (wI q.1) q.2 ∧ Gr q.2 := by
  have h : (if x0 < x1 then J_J9_max_7cf53_10 N x1 σ else J_J9_max_7cf53_10 N x0 σ) = some q := h
  show Ev xs L 175 0 [.int x0, .int x1] [] σ (wI q.1) q.2 ∧ Gr q.2
  refine ev_a (fun he => ev_iload rfl rfl he) ?_
  refine ev_a (fun he => ev_iload rfl rfl he) ?_
  refine ev_b (c := x0 < x1) (fun ht hf => ev_clt rfl ht hf) (fun hc1 => ?_) (fun hc1 => ?_)
  · rw [if_pos hc1] at h
    refine ev_a (fun he => ev_iload rfl rfl he) ?_
    exact TJ_J9_max_7cf53_10 xs L N x1 (.int x0) (.int x1) σ q h hG
  · rw [if_neg hc1] at h
    refine ev_a (fun he => ev_iload rfl rfl he) ?_
    refine ev_a (fun he => ev_goto rfl he) ?_
    exact TJ_J9_max_7cf53_10 xs L N x0 (.int x0) (.int x1) σ q h hG
def J_X1_quietSeconds_53 (N : Nat) (s0 : Int32) (σ : aSt) : Option (Int32 × aSt) := some (s0, σ)
set_option maxRecDepth 20000 in
set_option maxHeartbeats 4000000 in
theorem TJ_X1_quietSeconds_53 (xs : Nat → Int32) (L : Nat) (N : Nat) (s0 : Int32) (d0 : Value) (d1 : Value) (d2 : Value) (d3 : Value) (σ : aSt) (q : Int32 × aSt) (h : J_X1_quietSeconds_53 N s0 σ = some q) (hG : Gr σ) : Ev xs L 3 53 [d0, d1, d2, d3] [.int s0] σ (wI q.1) q.2 ∧ Gr q.2 := by
  have h : (some (s0, σ)) = some q := h
  cases h
  exact ⟨ev_retI rfl, hG⟩
def J_X1_quietSeconds_35 (N : Nat) (x0 : Nat) (x2 : Int32) (σ : aSt) : Option (Int32 × aSt) := if (aI σ x0 1) ≤ x2 then J_X1_quietSeconds_53 N 0 σ else J_X1_quietSeconds_53 N ((aI σ x0 1) - x2) σ
set_option maxRecDepth 20000 in
set_option maxHeartbeats 4000000 in
theorem TJ_X1_quietSeconds_35 (xs : Nat → Int32) (L : Nat) (N : Nat) (x0 : Nat) (x2 : Int32) (d1 : Value) (d3 : Value) (σ : aSt) (q : Int32 × aSt) (h : J_X1_quietSeconds_35 N x0 x2 σ = some q) (hG : Gr σ) (hx0 : isCk x0) : Ev xs L 3 35 [.ref x0, d1, .int x2, d3] [] σ (wI q.1) q.2 ∧ Gr q.2 := by
  have h : (if (aI σ x0 1) ≤ x2 then J_X1_quietSeconds_53 N 0 σ else J_X1_quietSeconds_53 N ((aI σ x0 1) - x2) σ) = some q := h
  refine ev_a (fun he => ev_iload rfl rfl he) ?_
  refine ev_a (fun he => ev_aload rfl rfl he) ?_
  refine ev_a (fun he => ev_getI rfl (gr_ob (n := 5) hG (sh_Ck0 hx0)) he) ?_
  refine ev_b (c := (aI σ x0 1) ≤ x2) (fun ht hf => ev_cge rfl ht hf) (fun hc1 => ?_) (fun hc1 => ?_)
  · rw [if_pos hc1] at h
    refine ev_a (fun he => ev_push rfl he) ?_
    exact TJ_X1_quietSeconds_53 xs L N 0 (.ref x0) (d1) (.int x2) (d3) σ q h hG
  · rw [if_neg hc1] at h
    refine ev_a (fun he => ev_aload rfl rfl he) ?_
    refine ev_a (fun he => ev_getI rfl (gr_ob (n := 5) hG (sh_Ck0 hx0)) he) ?_
    refine ev_a (fun he => ev_iload rfl rfl he) ?_
    refine ev_a (fun he => ev_bin (z := (aI σ x0 1) - x2) rfl rfl he) ?_
    refine ev_a (fun he => ev_goto rfl he) ?_
    exact TJ_X1_quietSeconds_53 xs L N ((aI σ x0 1) - x2) (.ref x0) (d1) (.int x2) (d3) σ q h hG
def H_X1_quietSeconds_7 (N : Nat) : Nat → Nat → Int32 → Int32 → Int32 → aSt → Option (Int32 × aSt)
  | 0, _, _, _, _, _ => none
  | n + 1, x0, x1, x2, x3, σ => if x1 ≤ x3 then J_X1_quietSeconds_35 N x0 x2 σ else if 6 ≤ x3 then J_X1_quietSeconds_35 N x0 x2 σ else cO (¬ (x3 < 0 ∨ 6 ≤ x3.toNatClampNeg)) (oB (F_J9_max_7cf53 N x2 (aI σ (x0 + 1) x3.toNatClampNeg) σ) fun y5 σ6 => (H_X1_quietSeconds_7 N n) x0 x1 y5 (x3 + 1) σ6)
set_option maxRecDepth 20000 in
set_option maxHeartbeats 4000000 in
theorem TH_X1_quietSeconds_7 (xs : Nat → Int32) (L : Nat) (N : Nat) : ∀ (n : Nat) (x0 : Nat) (x1 : Int32) (x2 : Int32) (x3 : Int32) (σ : aSt) (q : Int32 × aSt), H_X1_quietSeconds_7 N n x0 x1 x2 x3 σ = some q → Gr σ → isCk x0 → Ev xs L 3 7 [.ref x0, .int x1, .int x2, .int x3] [] σ (wI q.1) q.2 ∧ Gr q.2 := by
  intro n
  induction n with
  | zero =>
    intro x0 x1 x2 x3 σ q h hG hx0
    exact absurd (show (none : Option (Int32 × aSt)) = some q from h) (by simp)
  | succ n ih =>
    intro x0 x1 x2 x3 σ q h hG hx0
    have hk7 : ∀ (x0 : Nat) (x1 : Int32) (x2 : Int32) (x3 : Int32) (σ : aSt) (q : Int32 × aSt), H_X1_quietSeconds_7 N n x0 x1 x2 x3 σ = some q → Gr σ → isCk x0 → Ev xs L 3 7 [.ref x0, .int x1, .int x2, .int x3] [] σ (wI q.1) q.2 ∧ Gr q.2 := ih
    have h : (if x1 ≤ x3 then J_X1_quietSeconds_35 N x0 x2 σ else if 6 ≤ x3 then J_X1_quietSeconds_35 N x0 x2 σ else cO (¬ (x3 < 0 ∨ 6 ≤ x3.toNatClampNeg)) (oB (F_J9_max_7cf53 N x2 (aI σ (x0 + 1) x3.toNatClampNeg) σ) fun y5 σ6 => (H_X1_quietSeconds_7 N n) x0 x1 y5 (x3 + 1) σ6)) = some q := h
    refine ev_a (fun he => ev_iload rfl rfl he) ?_
    refine ev_a (fun he => ev_iload rfl rfl he) ?_
    refine ev_b (c := x1 ≤ x3) (fun ht hf => ev_cge rfl ht hf) (fun hc2 => ?_) (fun hc2 => ?_)
    · rw [if_pos hc2] at h
      exact TJ_X1_quietSeconds_35 xs L N x0 x2 (.int x1) (.int x3) σ q h hG hx0
    · rw [if_neg hc2] at h
      refine ev_a (fun he => ev_iload rfl rfl he) ?_
      refine ev_a (fun he => ev_push rfl he) ?_
      refine ev_b (c := 6 ≤ x3) (fun ht hf => ev_cge rfl ht hf) (fun hc3 => ?_) (fun hc3 => ?_)
      · rw [if_pos hc3] at h
        exact TJ_X1_quietSeconds_35 xs L N x0 x2 (.int x1) (.int x3) σ q h hG hx0
      · rw [if_neg hc3] at h
        refine ev_a (fun he => ev_iload rfl rfl he) ?_
        refine ev_a (fun he => ev_aload rfl rfl he) ?_
        refine ev_a (fun he => ev_getR rfl (gr_ob (n := 5) hG (sh_Ck0 hx0)) (gr_p hG (gf_Ck4 hx0)) he) ?_
        refine ev_a (fun he => ev_iload rfl rfl he) ?_
        obtain ⟨hc4, h⟩ := cO_inv h
        refine ev_a (fun he => ev_aldI (k := x3.toNatClampNeg) rfl (gr_ar hG (sh_Ck1 hx0)) hc4 rfl he) ?_
        obtain ⟨y5, σ6, h7, h⟩ := oB_inv h
        obtain ⟨c8, hG9⟩ := T_J9_max_7cf53 xs L N x2 (aI σ (x0 + 1) x3.toNatClampNeg) σ (y5, σ6) h7 hG
        refine ev_a (fun he => ev_callS (as := [.int x2, .int (aI σ (x0 + 1) x3.toNatClampNeg)]) rfl rfl rfl rfl (Nat.le_of_ble_eq_true rfl) (Nat.le_of_ble_eq_true rfl) c8 he) ?_
        refine ev_a (fun he => ev_istore (ls' := [.ref x0, .int x1, .int y5, .int x3]) rfl (Nat.le_of_ble_eq_true rfl) rfl he) ?_
        refine ev_a (fun he => ev_iinc (ls' := [.ref x0, .int x1, .int y5, .int (x3 + 1)]) rfl rfl rfl (Nat.le_of_ble_eq_true rfl) rfl he) ?_
        refine ev_a (fun he => ev_goto rfl he) ?_
        exact hk7 x0 x1 y5 (x3 + 1) σ6 q h hG9 hx0
def F_X1_quietSeconds (N : Nat) (x0 : Nat) (x1 : Int32) (σ : aSt) : Option (Int32 × aSt) := H_X1_quietSeconds_7 N N x0 x1 (aI σ x0 2) 0 σ
set_option maxRecDepth 20000 in
set_option maxHeartbeats 4000000 in
theorem T_X1_quietSeconds (xs : Nat → Int32) (L : Nat) (N : Nat) (x0 : Nat) (x1 : Int32) (σ : aSt) (q : Int32 × aSt) (h : F_X1_quietSeconds N x0 x1 σ = some q) (hG : Gr σ) (hx0 : isCk x0) : Cal xs L 3 [.ref x0, .int x1] σ (wI q.1) q.2 ∧ Gr q.2 := by
  have h : (H_X1_quietSeconds_7 N N x0 x1 (aI σ x0 2) 0 σ) = some q := h
  show Ev xs L 3 0 [.ref x0, .int x1, aU, aU] [] σ (wI q.1) q.2 ∧ Gr q.2
  refine ev_a (fun he => ev_aload rfl rfl he) ?_
  refine ev_a (fun he => ev_getI rfl (gr_ob (n := 5) hG (sh_Ck0 hx0)) he) ?_
  refine ev_a (fun he => ev_istore (ls' := [.ref x0, .int x1, .int (aI σ x0 2), aU]) rfl (Nat.le_of_ble_eq_true rfl) rfl he) ?_
  refine ev_a (fun he => ev_push rfl he) ?_
  refine ev_a (fun he => ev_istore (ls' := [.ref x0, .int x1, .int (aI σ x0 2), .int 0]) rfl (Nat.le_of_ble_eq_true rfl) rfl he) ?_
  exact TH_X1_quietSeconds_7 xs L N N x0 x1 (aI σ x0 2) 0 σ q h hG hx0
def J_X2_hasLot_17 (N : Nat) (s0 : Int32) (σ : aSt) : Option (Int32 × aSt) := cO (vp_nar .boolean s0 = s0) (some (s0, σ))
set_option maxRecDepth 20000 in
set_option maxHeartbeats 4000000 in
theorem TJ_X2_hasLot_17 (xs : Nat → Int32) (L : Nat) (N : Nat) (s0 : Int32) (d0 : Value) (d1 : Value) (σ : aSt) (q : Int32 × aSt) (h : J_X2_hasLot_17 N s0 σ = some q) (hG : Gr σ) : Ev xs L 5 17 [d0, d1] [.int s0] σ (wI q.1) q.2 ∧ Gr q.2 := by
  have h : (cO (vp_nar .boolean s0 = s0) (some (s0, σ))) = some q := h
  obtain ⟨hc1, h⟩ := cO_inv h
  cases h
  exact ⟨ev_retZ rfl hc1, hG⟩
def J_X2_hasLot_16 (N : Nat) (σ : aSt) : Option (Int32 × aSt) := J_X2_hasLot_17 N 0 σ
set_option maxRecDepth 20000 in
set_option maxHeartbeats 4000000 in
theorem TJ_X2_hasLot_16 (xs : Nat → Int32) (L : Nat) (N : Nat) (d0 : Value) (d1 : Value) (σ : aSt) (q : Int32 × aSt) (h : J_X2_hasLot_16 N  σ = some q) (hG : Gr σ) : Ev xs L 5 16 [d0, d1] [] σ (wI q.1) q.2 ∧ Gr q.2 := by
  have h : (J_X2_hasLot_17 N 0 σ) = some q := h
  refine ev_a (fun he => ev_push rfl he) ?_
  exact TJ_X2_hasLot_17 xs L N 0 (d0) (d1) σ q h hG
def F_X2_hasLot (N : Nat) (x1 : Int32) (σ : aSt) : Option (Int32 × aSt) := if x1 < 0 then J_X2_hasLot_16 N σ else if (aI σ 11 1) ≤ x1 then J_X2_hasLot_16 N σ else J_X2_hasLot_17 N 1 σ
set_option maxRecDepth 20000 in
set_option maxHeartbeats 4000000 in
theorem T_X2_hasLot (xs : Nat → Int32) (L : Nat) (N : Nat) (x1 : Int32) (σ : aSt) (q : Int32 × aSt) (h : F_X2_hasLot N x1 σ = some q) (hG : Gr σ) : Cal xs L 5 [.ref 11, .int x1] σ (wI q.1) q.2 ∧ Gr q.2 := by
  have h : (if x1 < 0 then J_X2_hasLot_16 N σ else if (aI σ 11 1) ≤ x1 then J_X2_hasLot_16 N σ else J_X2_hasLot_17 N 1 σ) = some q := h
  show Ev xs L 5 0 [.ref 11, .int x1] [] σ (wI q.1) q.2 ∧ Gr q.2
  refine ev_a (fun he => ev_iload rfl rfl he) ?_
  refine ev_b (c := x1 < 0) (fun ht hf => ev_iflt rfl ht hf) (fun hc2 => ?_) (fun hc2 => ?_)
  · rw [if_pos hc2] at h
    exact TJ_X2_hasLot_16 xs L N (.ref 11) (.int x1) σ q h hG
  · rw [if_neg hc2] at h
    refine ev_a (fun he => ev_iload rfl rfl he) ?_
    refine ev_a (fun he => ev_aload rfl rfl he) ?_
    refine ev_a (fun he => ev_getI rfl (gr_ob (n := 7) hG rfl) he) ?_
    refine ev_b (c := (aI σ 11 1) ≤ x1) (fun ht hf => ev_cge rfl ht hf) (fun hc3 => ?_) (fun hc3 => ?_)
    · rw [if_pos hc3] at h
      exact TJ_X2_hasLot_16 xs L N (.ref 11) (.int x1) σ q h hG
    · rw [if_neg hc3] at h
      refine ev_a (fun he => ev_push rfl he) ?_
      refine ev_a (fun he => ev_goto rfl he) ?_
      exact TJ_X2_hasLot_17 xs L N 1 (.ref 11) (.int x1) σ q h hG
def J_X2_hasBuyer_17 (N : Nat) (s0 : Int32) (σ : aSt) : Option (Int32 × aSt) := cO (vp_nar .boolean s0 = s0) (some (s0, σ))
set_option maxRecDepth 20000 in
set_option maxHeartbeats 4000000 in
theorem TJ_X2_hasBuyer_17 (xs : Nat → Int32) (L : Nat) (N : Nat) (s0 : Int32) (d0 : Value) (d1 : Value) (σ : aSt) (q : Int32 × aSt) (h : J_X2_hasBuyer_17 N s0 σ = some q) (hG : Gr σ) : Ev xs L 6 17 [d0, d1] [.int s0] σ (wI q.1) q.2 ∧ Gr q.2 := by
  have h : (cO (vp_nar .boolean s0 = s0) (some (s0, σ))) = some q := h
  obtain ⟨hc1, h⟩ := cO_inv h
  cases h
  exact ⟨ev_retZ rfl hc1, hG⟩
def J_X2_hasBuyer_16 (N : Nat) (σ : aSt) : Option (Int32 × aSt) := J_X2_hasBuyer_17 N 0 σ
set_option maxRecDepth 20000 in
set_option maxHeartbeats 4000000 in
theorem TJ_X2_hasBuyer_16 (xs : Nat → Int32) (L : Nat) (N : Nat) (d0 : Value) (d1 : Value) (σ : aSt) (q : Int32 × aSt) (h : J_X2_hasBuyer_16 N  σ = some q) (hG : Gr σ) : Ev xs L 6 16 [d0, d1] [] σ (wI q.1) q.2 ∧ Gr q.2 := by
  have h : (J_X2_hasBuyer_17 N 0 σ) = some q := h
  refine ev_a (fun he => ev_push rfl he) ?_
  exact TJ_X2_hasBuyer_17 xs L N 0 (d0) (d1) σ q h hG
def F_X2_hasBuyer (N : Nat) (x1 : Int32) (σ : aSt) : Option (Int32 × aSt) := if x1 < 0 then J_X2_hasBuyer_16 N σ else if (aI σ 11 3) ≤ x1 then J_X2_hasBuyer_16 N σ else J_X2_hasBuyer_17 N 1 σ
set_option maxRecDepth 20000 in
set_option maxHeartbeats 4000000 in
theorem T_X2_hasBuyer (xs : Nat → Int32) (L : Nat) (N : Nat) (x1 : Int32) (σ : aSt) (q : Int32 × aSt) (h : F_X2_hasBuyer N x1 σ = some q) (hG : Gr σ) : Cal xs L 6 [.ref 11, .int x1] σ (wI q.1) q.2 ∧ Gr q.2 := by
  have h : (if x1 < 0 then J_X2_hasBuyer_16 N σ else if (aI σ 11 3) ≤ x1 then J_X2_hasBuyer_16 N σ else J_X2_hasBuyer_17 N 1 σ) = some q := h
  show Ev xs L 6 0 [.ref 11, .int x1] [] σ (wI q.1) q.2 ∧ Gr q.2
  refine ev_a (fun he => ev_iload rfl rfl he) ?_
  refine ev_b (c := x1 < 0) (fun ht hf => ev_iflt rfl ht hf) (fun hc2 => ?_) (fun hc2 => ?_)
  · rw [if_pos hc2] at h
    exact TJ_X2_hasBuyer_16 xs L N (.ref 11) (.int x1) σ q h hG
  · rw [if_neg hc2] at h
    refine ev_a (fun he => ev_iload rfl rfl he) ?_
    refine ev_a (fun he => ev_aload rfl rfl he) ?_
    refine ev_a (fun he => ev_getI rfl (gr_ob (n := 7) hG rfl) he) ?_
    refine ev_b (c := (aI σ 11 3) ≤ x1) (fun ht hf => ev_cge rfl ht hf) (fun hc3 => ?_) (fun hc3 => ?_)
    · rw [if_pos hc3] at h
      exact TJ_X2_hasBuyer_16 xs L N (.ref 11) (.int x1) σ q h hG
    · rw [if_neg hc3] at h
      refine ev_a (fun he => ev_push rfl he) ?_
      refine ev_a (fun he => ev_goto rfl he) ?_
      exact TJ_X2_hasBuyer_17 xs L N 1 (.ref 11) (.int x1) σ q h hG
def F_X2_land (N : Nat) (x1 : Int32) (x2 : Int32) (x3 : Int32) (x4 : Int32) (x5 : Int32) (σ : aSt) : Option (Int32 × aSt) := if (aI σ 11 1) < 24 then cO (¬ ((aI σ 11 1) < 0 ∨ 24 ≤ (aI σ 11 1).toNatClampNeg)) (lt (aWI σ (23 + (aI σ 11 1).toNatClampNeg) 0 x1) fun σ3 => lt (aWI σ3 (23 + (aI σ 11 1).toNatClampNeg) 1 x2) fun σ6 => lt (aWI σ6 (23 + (aI σ 11 1).toNatClampNeg) 2 x3) fun σ9 => lt (aWI σ9 (23 + (aI σ 11 1).toNatClampNeg) 3 x4) fun σ12 => lt (aWI σ12 (23 + (aI σ 11 1).toNatClampNeg) 4 x5) fun σ15 => lt (aWI σ15 11 1 ((aI σ15 11 1) + 1)) fun σ18 => some ((aI σ18 11 1) - 1, σ18)) else some ((-1), σ)
set_option maxRecDepth 20000 in
set_option maxHeartbeats 4000000 in
theorem T_X2_land (xs : Nat → Int32) (L : Nat) (N : Nat) (x1 : Int32) (x2 : Int32) (x3 : Int32) (x4 : Int32) (x5 : Int32) (σ : aSt) (q : Int32 × aSt) (h : F_X2_land N x1 x2 x3 x4 x5 σ = some q) (hG : Gr σ) : Cal xs L 7 [.ref 11, .int x1, .int x2, .int x3, .int x4, .int x5] σ (wI q.1) q.2 ∧ Gr q.2 := by
  have h : (if (aI σ 11 1) < 24 then cO (¬ ((aI σ 11 1) < 0 ∨ 24 ≤ (aI σ 11 1).toNatClampNeg)) (lt (aWI σ (23 + (aI σ 11 1).toNatClampNeg) 0 x1) fun σ3 => lt (aWI σ3 (23 + (aI σ 11 1).toNatClampNeg) 1 x2) fun σ6 => lt (aWI σ6 (23 + (aI σ 11 1).toNatClampNeg) 2 x3) fun σ9 => lt (aWI σ9 (23 + (aI σ 11 1).toNatClampNeg) 3 x4) fun σ12 => lt (aWI σ12 (23 + (aI σ 11 1).toNatClampNeg) 4 x5) fun σ15 => lt (aWI σ15 11 1 ((aI σ15 11 1) + 1)) fun σ18 => some ((aI σ18 11 1) - 1, σ18)) else some ((-1), σ)) = some q := h
  show Ev xs L 7 0 [.ref 11, .int x1, .int x2, .int x3, .int x4, .int x5, aU] [] σ (wI q.1) q.2 ∧ Gr q.2
  refine ev_a (fun he => ev_aload rfl rfl he) ?_
  refine ev_a (fun he => ev_getI rfl (gr_ob (n := 7) hG rfl) he) ?_
  refine ev_a (fun he => ev_push rfl he) ?_
  refine ev_b (c := (aI σ 11 1) < 24) (fun ht hf => ev_clt rfl ht hf) (fun hc1 => ?_) (fun hc1 => ?_)
  · rw [if_pos hc1] at h
    refine ev_a (fun he => ev_aload rfl rfl he) ?_
    refine ev_a (fun he => ev_getR rfl (gr_ob (n := 7) hG rfl) (gr_p (a := 11) (k := 0) (b := 12) hG rfl) he) ?_
    refine ev_a (fun he => ev_aload rfl rfl he) ?_
    refine ev_a (fun he => ev_getI rfl (gr_ob (n := 7) hG rfl) he) ?_
    obtain ⟨hc2, h⟩ := cO_inv h
    refine ev_a (fun he => ev_aldR rfl (gr_ar hG rfl) (by decide) hc2 (gr_p hG (el_Lo hc2).1) he) ?_
    refine ev_a (fun he => ev_astore (ls' := [.ref 11, .int x1, .int x2, .int x3, .int x4, .int x5, .ref (23 + (aI σ 11 1).toNatClampNeg)]) rfl (Nat.le_of_ble_eq_true rfl) rfl he) ?_
    refine ev_a (fun he => ev_aload rfl rfl he) ?_
    refine ev_a (fun he => ev_iload rfl rfl he) ?_
    obtain ⟨σ3, e4, h⟩ := lt_inv h
    have hG5 : Gr σ3 := gr_wi e4 hG
    refine ev_a (fun he => ev_putI rfl (gr_ob (n := 5) hG (sh_Lo0 (el_Lo hc2).2)) e4 he) ?_
    refine ev_a (fun he => ev_aload rfl rfl he) ?_
    refine ev_a (fun he => ev_iload rfl rfl he) ?_
    obtain ⟨σ6, e7, h⟩ := lt_inv h
    have hG8 : Gr σ6 := gr_wi e7 hG5
    refine ev_a (fun he => ev_putI rfl (gr_ob (n := 5) hG5 (sh_Lo0 (el_Lo hc2).2)) e7 he) ?_
    refine ev_a (fun he => ev_aload rfl rfl he) ?_
    refine ev_a (fun he => ev_iload rfl rfl he) ?_
    obtain ⟨σ9, e10, h⟩ := lt_inv h
    have hG11 : Gr σ9 := gr_wi e10 hG8
    refine ev_a (fun he => ev_putI rfl (gr_ob (n := 5) hG8 (sh_Lo0 (el_Lo hc2).2)) e10 he) ?_
    refine ev_a (fun he => ev_aload rfl rfl he) ?_
    refine ev_a (fun he => ev_iload rfl rfl he) ?_
    obtain ⟨σ12, e13, h⟩ := lt_inv h
    have hG14 : Gr σ12 := gr_wi e13 hG11
    refine ev_a (fun he => ev_putI rfl (gr_ob (n := 5) hG11 (sh_Lo0 (el_Lo hc2).2)) e13 he) ?_
    refine ev_a (fun he => ev_aload rfl rfl he) ?_
    refine ev_a (fun he => ev_iload rfl rfl he) ?_
    obtain ⟨σ15, e16, h⟩ := lt_inv h
    have hG17 : Gr σ15 := gr_wi e16 hG14
    refine ev_a (fun he => ev_putI rfl (gr_ob (n := 5) hG14 (sh_Lo0 (el_Lo hc2).2)) e16 he) ?_
    refine ev_a (fun he => ev_aload rfl rfl he) ?_
    refine ev_a (fun he => ev_dupR rfl he) ?_
    refine ev_a (fun he => ev_getI rfl (gr_ob (n := 7) hG17 rfl) he) ?_
    refine ev_a (fun he => ev_push rfl he) ?_
    refine ev_a (fun he => ev_bin (z := (aI σ15 11 1) + 1) rfl rfl he) ?_
    obtain ⟨σ18, e19, h⟩ := lt_inv h
    have hG20 : Gr σ18 := gr_wi e19 hG17
    refine ev_a (fun he => ev_putI rfl (gr_ob (n := 7) hG17 rfl) e19 he) ?_
    refine ev_a (fun he => ev_aload rfl rfl he) ?_
    refine ev_a (fun he => ev_getI rfl (gr_ob (n := 7) hG20 rfl) he) ?_
    refine ev_a (fun he => ev_push rfl he) ?_
    refine ev_a (fun he => ev_bin (z := (aI σ18 11 1) - 1) rfl rfl he) ?_
    cases h
    exact ⟨ev_retI rfl, hG20⟩
  · rw [if_neg hc1] at h
    refine ev_a (fun he => ev_push rfl he) ?_
    cases h
    exact ⟨ev_retI rfl, hG⟩
def F_X2_admit (N : Nat) (x1 : Int32) (x2 : Int32) (σ : aSt) : Option (Int32 × aSt) := if (aI σ 11 3) < 6 then cO (¬ ((aI σ 11 3) < 0 ∨ 6 ≤ (aI σ 11 3).toNatClampNeg)) (lt (aWI σ (47 + 9 * (aI σ 11 3).toNatClampNeg) 0 x1) fun σ3 => cO (¬ ((aI σ3 11 3) < 0 ∨ 6 ≤ (aI σ3 11 3).toNatClampNeg)) (lt (aWI σ3 (47 + 9 * (aI σ3 11 3).toNatClampNeg) 1 x2) fun σ7 => lt (aWI σ7 11 3 ((aI σ7 11 3) + 1)) fun σ10 => some ((aI σ10 11 3) - 1, σ10))) else some ((-1), σ)
set_option maxRecDepth 20000 in
set_option maxHeartbeats 4000000 in
theorem T_X2_admit (xs : Nat → Int32) (L : Nat) (N : Nat) (x1 : Int32) (x2 : Int32) (σ : aSt) (q : Int32 × aSt) (h : F_X2_admit N x1 x2 σ = some q) (hG : Gr σ) : Cal xs L 8 [.ref 11, .int x1, .int x2] σ (wI q.1) q.2 ∧ Gr q.2 := by
  have h : (if (aI σ 11 3) < 6 then cO (¬ ((aI σ 11 3) < 0 ∨ 6 ≤ (aI σ 11 3).toNatClampNeg)) (lt (aWI σ (47 + 9 * (aI σ 11 3).toNatClampNeg) 0 x1) fun σ3 => cO (¬ ((aI σ3 11 3) < 0 ∨ 6 ≤ (aI σ3 11 3).toNatClampNeg)) (lt (aWI σ3 (47 + 9 * (aI σ3 11 3).toNatClampNeg) 1 x2) fun σ7 => lt (aWI σ7 11 3 ((aI σ7 11 3) + 1)) fun σ10 => some ((aI σ10 11 3) - 1, σ10))) else some ((-1), σ)) = some q := h
  show Ev xs L 8 0 [.ref 11, .int x1, .int x2] [] σ (wI q.1) q.2 ∧ Gr q.2
  refine ev_a (fun he => ev_aload rfl rfl he) ?_
  refine ev_a (fun he => ev_getI rfl (gr_ob (n := 7) hG rfl) he) ?_
  refine ev_a (fun he => ev_push rfl he) ?_
  refine ev_b (c := (aI σ 11 3) < 6) (fun ht hf => ev_clt rfl ht hf) (fun hc1 => ?_) (fun hc1 => ?_)
  · rw [if_pos hc1] at h
    refine ev_a (fun he => ev_aload rfl rfl he) ?_
    refine ev_a (fun he => ev_getR rfl (gr_ob (n := 7) hG rfl) (gr_p (a := 11) (k := 2) (b := 13) hG rfl) he) ?_
    refine ev_a (fun he => ev_aload rfl rfl he) ?_
    refine ev_a (fun he => ev_getI rfl (gr_ob (n := 7) hG rfl) he) ?_
    obtain ⟨hc2, h⟩ := cO_inv h
    refine ev_a (fun he => ev_aldR rfl (gr_ar hG rfl) (by decide) hc2 (gr_p hG (el_Bu hc2).1) he) ?_
    refine ev_a (fun he => ev_iload rfl rfl he) ?_
    obtain ⟨σ3, e4, h⟩ := lt_inv h
    have hG5 : Gr σ3 := gr_wi e4 hG
    refine ev_a (fun he => ev_putI rfl (gr_ob (n := 4) hG (sh_Bu0 (el_Bu hc2).2)) e4 he) ?_
    refine ev_a (fun he => ev_aload rfl rfl he) ?_
    refine ev_a (fun he => ev_getR rfl (gr_ob (n := 7) hG5 rfl) (gr_p (a := 11) (k := 2) (b := 13) hG5 rfl) he) ?_
    refine ev_a (fun he => ev_aload rfl rfl he) ?_
    refine ev_a (fun he => ev_getI rfl (gr_ob (n := 7) hG5 rfl) he) ?_
    obtain ⟨hc6, h⟩ := cO_inv h
    refine ev_a (fun he => ev_aldR rfl (gr_ar hG5 rfl) (by decide) hc6 (gr_p hG5 (el_Bu hc6).1) he) ?_
    refine ev_a (fun he => ev_iload rfl rfl he) ?_
    obtain ⟨σ7, e8, h⟩ := lt_inv h
    have hG9 : Gr σ7 := gr_wi e8 hG5
    refine ev_a (fun he => ev_putI rfl (gr_ob (n := 4) hG5 (sh_Bu0 (el_Bu hc6).2)) e8 he) ?_
    refine ev_a (fun he => ev_aload rfl rfl he) ?_
    refine ev_a (fun he => ev_dupR rfl he) ?_
    refine ev_a (fun he => ev_getI rfl (gr_ob (n := 7) hG9 rfl) he) ?_
    refine ev_a (fun he => ev_push rfl he) ?_
    refine ev_a (fun he => ev_bin (z := (aI σ7 11 3) + 1) rfl rfl he) ?_
    obtain ⟨σ10, e11, h⟩ := lt_inv h
    have hG12 : Gr σ10 := gr_wi e11 hG9
    refine ev_a (fun he => ev_putI rfl (gr_ob (n := 7) hG9 rfl) e11 he) ?_
    refine ev_a (fun he => ev_aload rfl rfl he) ?_
    refine ev_a (fun he => ev_getI rfl (gr_ob (n := 7) hG12 rfl) he) ?_
    refine ev_a (fun he => ev_push rfl he) ?_
    refine ev_a (fun he => ev_bin (z := (aI σ10 11 3) - 1) rfl rfl he) ?_
    cases h
    exact ⟨ev_retI rfl, hG12⟩
  · rw [if_neg hc1] at h
    refine ev_a (fun he => ev_push rfl he) ?_
    cases h
    exact ⟨ev_retI rfl, hG⟩
def J_X2_exchangeText_41 (N : Nat) (x3 : Nat) (σ : aSt) : Option (Nat × aSt) := some (x3, σ)
set_option maxRecDepth 20000 in
set_option maxHeartbeats 4000000 in
theorem TJ_X2_exchangeText_41 (xs : Nat → Int32) (L : Nat) (N : Nat) (x3 : Nat) (d0 : Value) (d1 : Value) (d2 : Value) (σ : aSt) (q : Nat × aSt) (h : J_X2_exchangeText_41 N x3 σ = some q) (hG : Gr σ) (hx3 : isTx x3) : Ev xs L 9 41 [d0, d1, d2, .ref x3] [] σ (wR q.1) q.2 ∧ Gr q.2 := by
  have h : (some (x3, σ)) = some q := h
  refine ev_a (fun he => ev_aload rfl rfl he) ?_
  cases h
  exact ⟨ev_retA rfl, hG⟩
def F_X2_exchangeText (N : Nat) (x1 : Int32) (x2 : Nat) (σ : aSt) : Option (Nat × aSt) := oB (F_X2_hasBuyer N x1 σ) fun y1 σ2 => if y1 = 0 then lt (aWP σ2 11 5 (some x2)) fun σ7 => J_X2_exchangeText_41 N (aTxt σ 11 5) σ7 else cO (¬ (x1 < 0 ∨ 6 ≤ x1.toNatClampNeg)) (cO (¬ (x1 < 0 ∨ 6 ≤ x1.toNatClampNeg)) (lt (aWP σ2 (47 + 9 * x1.toNatClampNeg) 3 (some x2)) fun σ12 => J_X2_exchangeText_41 N (aTxt σ2 (47 + 9 * x1.toNatClampNeg) 3) σ12))
set_option maxRecDepth 20000 in
set_option maxHeartbeats 4000000 in
theorem T_X2_exchangeText (xs : Nat → Int32) (L : Nat) (N : Nat) (x1 : Int32) (x2 : Nat) (σ : aSt) (q : Nat × aSt) (h : F_X2_exchangeText N x1 x2 σ = some q) (hG : Gr σ) (hx2 : isTx x2) : Cal xs L 9 [.ref 11, .int x1, .ref x2] σ (wR q.1) q.2 ∧ Gr q.2 := by
  have h : (oB (F_X2_hasBuyer N x1 σ) fun y1 σ2 => if y1 = 0 then lt (aWP σ2 11 5 (some x2)) fun σ7 => J_X2_exchangeText_41 N (aTxt σ 11 5) σ7 else cO (¬ (x1 < 0 ∨ 6 ≤ x1.toNatClampNeg)) (cO (¬ (x1 < 0 ∨ 6 ≤ x1.toNatClampNeg)) (lt (aWP σ2 (47 + 9 * x1.toNatClampNeg) 3 (some x2)) fun σ12 => J_X2_exchangeText_41 N (aTxt σ2 (47 + 9 * x1.toNatClampNeg) 3) σ12))) = some q := h
  show Ev xs L 9 0 [.ref 11, .int x1, .ref x2, aU] [] σ (wR q.1) q.2 ∧ Gr q.2
  refine ev_a (fun he => ev_aload rfl rfl he) ?_
  refine ev_a (fun he => ev_getR rfl (gr_ob (n := 7) hG rfl) (gr_tx (a := 11) (k := 5) hG (by decide)).1 he) ?_
  refine ev_a (fun he => ev_astore (ls' := [.ref 11, .int x1, .ref x2, .ref (aTxt σ 11 5)]) rfl (Nat.le_of_ble_eq_true rfl) rfl he) ?_
  refine ev_a (fun he => ev_aload rfl rfl he) ?_
  refine ev_a (fun he => ev_iload rfl rfl he) ?_
  obtain ⟨y1, σ2, h3, h⟩ := oB_inv h
  obtain ⟨c4, hG5⟩ := T_X2_hasBuyer xs L N x1 σ (y1, σ2) h3 hG
  refine ev_a (fun he => ev_callV (as := [.int x1]) rfl (gr_ob (n := 7) hG rfl) rfl rfl rfl (Nat.le_of_ble_eq_true rfl) (Nat.le_of_ble_eq_true rfl) c4 he) ?_
  refine ev_b (c := y1 = 0) (fun ht hf => ev_ifeq rfl ht hf) (fun hc6 => ?_) (fun hc6 => ?_)
  · rw [if_pos hc6] at h
    refine ev_a (fun he => ev_aload rfl rfl he) ?_
    refine ev_a (fun he => ev_aload rfl rfl he) ?_
    obtain ⟨σ7, e8, h⟩ := lt_inv h
    have hG9 : Gr σ7 := gr_wp e8 (by decide) hx2 rfl hG5
    refine ev_a (fun he => ev_putR rfl (gr_ob (n := 7) hG5 rfl) e8 he) ?_
    exact TJ_X2_exchangeText_41 xs L N (aTxt σ 11 5) (.ref 11) (.int x1) (.ref x2) σ7 q h hG9 (gr_tx (a := 11) (k := 5) hG (by decide)).2
  · rw [if_neg hc6] at h
    refine ev_a (fun he => ev_aload rfl rfl he) ?_
    refine ev_a (fun he => ev_getR rfl (gr_ob (n := 7) hG5 rfl) (gr_p (a := 11) (k := 2) (b := 13) hG5 rfl) he) ?_
    refine ev_a (fun he => ev_iload rfl rfl he) ?_
    obtain ⟨hc10, h⟩ := cO_inv h
    refine ev_a (fun he => ev_aldR rfl (gr_ar hG5 rfl) (by decide) hc10 (gr_p hG5 (el_Bu hc10).1) he) ?_
    refine ev_a (fun he => ev_getR rfl (gr_ob (n := 4) hG5 (sh_Bu0 (el_Bu hc10).2)) (gr_tx hG5 (tx_Bu (el_Bu hc10).2)).1 he) ?_
    refine ev_a (fun he => ev_astore (ls' := [.ref 11, .int x1, .ref x2, .ref (aTxt σ2 (47 + 9 * x1.toNatClampNeg) 3)]) rfl (Nat.le_of_ble_eq_true rfl) rfl he) ?_
    refine ev_a (fun he => ev_aload rfl rfl he) ?_
    refine ev_a (fun he => ev_getR rfl (gr_ob (n := 7) hG5 rfl) (gr_p (a := 11) (k := 2) (b := 13) hG5 rfl) he) ?_
    refine ev_a (fun he => ev_iload rfl rfl he) ?_
    obtain ⟨hc11, h⟩ := cO_inv h
    refine ev_a (fun he => ev_aldR rfl (gr_ar hG5 rfl) (by decide) hc11 (gr_p hG5 (el_Bu hc11).1) he) ?_
    refine ev_a (fun he => ev_aload rfl rfl he) ?_
    obtain ⟨σ12, e13, h⟩ := lt_inv h
    have hG14 : Gr σ12 := gr_wp e13 (tx_Bu (el_Bu hc11).2) hx2 (txn_Bu (el_Bu hc11).2) hG5
    refine ev_a (fun he => ev_putR rfl (gr_ob (n := 4) hG5 (sh_Bu0 (el_Bu hc11).2)) e13 he) ?_
    refine ev_a (fun he => ev_goto rfl he) ?_
    exact TJ_X2_exchangeText_41 xs L N (aTxt σ2 (47 + 9 * x1.toNatClampNeg) 3) (.ref 11) (.int x1) (.ref x2) σ12 q h hG14 (gr_tx hG5 (tx_Bu (el_Bu hc10).2)).2
theorem txr_X2_exchangeText (xs : Nat → Int32) (L : Nat) (N : Nat) (x1 : Int32) (x2 : Nat) (σ : aSt) (q : Nat × aSt) (h : F_X2_exchangeText N x1 x2 σ = some q) (hG : Gr σ) (hx2 : isTx x2) : isTx q.1 := by
  unfold F_X2_exchangeText at h
  obtain ⟨y1, σ2, h1, h⟩ := oB_inv h
  obtain ⟨-, hG2⟩ := T_X2_hasBuyer xs L N x1 σ (y1, σ2) h1 hG
  split at h
  · obtain ⟨σ7, e, h⟩ := lt_inv h
    have h : (some (aTxt σ 11 5, σ7) : Option (Nat × aSt)) = some q := h
    cases h
    exact (gr_tx (a := 11) (k := 5) hG (by decide)).2
  · obtain ⟨hc, h⟩ := cO_inv h
    obtain ⟨hc2, h⟩ := cO_inv h
    obtain ⟨σ12, e, h⟩ := lt_inv h
    have h : (some (aTxt σ2 (47 + 9 * x1.toNatClampNeg) 3, σ12) : Option (Nat × aSt)) = some q := h
    cases h
    exact (gr_tx hG2 (tx_Bu (el_Bu hc).2)).2
