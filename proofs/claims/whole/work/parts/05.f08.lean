def J_X8_isDigit_17 (N : Nat) (s0 : Int32) (σ : aSt) : Option (Int32 × aSt) := cO (vp_nar .boolean s0 = s0) (some (s0, σ))
set_option maxRecDepth 20000 in
set_option maxHeartbeats 4000000 in
theorem TJ_X8_isDigit_17 (xs : Nat → Int32) (L : Nat) (N : Nat) (s0 : Int32) (d0 : Value) (σ : aSt) (q : Int32 × aSt) (h : J_X8_isDigit_17 N s0 σ = some q) (hG : Gr σ) : Ev xs L 57 17 [d0] [.int s0] σ (wI q.1) q.2 ∧ Gr q.2 := by
  have h : (cO (vp_nar .boolean s0 = s0) (some (s0, σ))) = some q := h
  obtain ⟨hc1, h⟩ := cO_inv h
  cases h
  exact ⟨ev_retZ rfl hc1, hG⟩
def J_X8_isDigit_16 (N : Nat) (σ : aSt) : Option (Int32 × aSt) := J_X8_isDigit_17 N 0 σ
set_option maxRecDepth 20000 in
set_option maxHeartbeats 4000000 in
theorem TJ_X8_isDigit_16 (xs : Nat → Int32) (L : Nat) (N : Nat) (d0 : Value) (σ : aSt) (q : Int32 × aSt) (h : J_X8_isDigit_16 N  σ = some q) (hG : Gr σ) : Ev xs L 57 16 [d0] [] σ (wI q.1) q.2 ∧ Gr q.2 := by
  have h : (J_X8_isDigit_17 N 0 σ) = some q := h
  refine ev_a (fun he => ev_push rfl he) ?_
  exact TJ_X8_isDigit_17 xs L N 0 (d0) σ q h hG
def F_X8_isDigit (N : Nat) (x0 : Int32) (σ : aSt) : Option (Int32 × aSt) := if x0 < 48 then J_X8_isDigit_16 N σ else if 57 < x0 then J_X8_isDigit_16 N σ else J_X8_isDigit_17 N 1 σ
set_option maxRecDepth 20000 in
set_option maxHeartbeats 4000000 in
theorem T_X8_isDigit (xs : Nat → Int32) (L : Nat) (N : Nat) (x0 : Int32) (σ : aSt) (q : Int32 × aSt) (h : F_X8_isDigit N x0 σ = some q) (hG : Gr σ) : Cal xs L 57 [.int x0] σ (wI q.1) q.2 ∧ Gr q.2 := by
  have h : (if x0 < 48 then J_X8_isDigit_16 N σ else if 57 < x0 then J_X8_isDigit_16 N σ else J_X8_isDigit_17 N 1 σ) = some q := h
  show Ev xs L 57 0 [.int x0] [] σ (wI q.1) q.2 ∧ Gr q.2
  refine ev_a (fun he => ev_iload rfl rfl he) ?_
  refine ev_a (fun he => ev_push rfl he) ?_
  refine ev_b (c := x0 < 48) (fun ht hf => ev_clt rfl ht hf) (fun hc2 => ?_) (fun hc2 => ?_)
  · rw [if_pos hc2] at h
    exact TJ_X8_isDigit_16 xs L N (.int x0) σ q h hG
  · rw [if_neg hc2] at h
    refine ev_a (fun he => ev_iload rfl rfl he) ?_
    refine ev_a (fun he => ev_push rfl he) ?_
    refine ev_b (c := 57 < x0) (fun ht hf => ev_cgt rfl ht hf) (fun hc3 => ?_) (fun hc3 => ?_)
    · rw [if_pos hc3] at h
      exact TJ_X8_isDigit_16 xs L N (.int x0) σ q h hG
    · rw [if_neg hc3] at h
      refine ev_a (fun he => ev_push rfl he) ?_
      refine ev_a (fun he => ev_goto rfl he) ?_
      exact TJ_X8_isDigit_17 xs L N 1 (.int x0) σ q h hG
def J_X8_intToken_81 (N : Nat) (s0 : Int32) (σ : aSt) : Option (Int32 × aSt) := some (s0, σ)
set_option maxRecDepth 20000 in
set_option maxHeartbeats 4000000 in
theorem TJ_X8_intToken_81 (xs : Nat → Int32) (L : Nat) (N : Nat) (s0 : Int32) (d0 : Value) (d1 : Value) (σ : aSt) (q : Int32 × aSt) (h : J_X8_intToken_81 N s0 σ = some q) (hG : Gr σ) : Ev xs L 52 81 [d0, d1] [.int s0] σ (wI q.1) q.2 ∧ Gr q.2 := by
  have h : (some (s0, σ)) = some q := h
  cases h
  exact ⟨ev_retI rfl, hG⟩
def J_X8_intToken_59 (N : Nat) (x1 : Int32) (σ : aSt) : Option (Int32 × aSt) := if ((aI σ 1 4) - (aI σ 1 5)) ≤ 4 then J_X8_intToken_81 N (32 + x1) σ else J_X8_intToken_81 N 26 σ
set_option maxRecDepth 20000 in
set_option maxHeartbeats 4000000 in
theorem TJ_X8_intToken_59 (xs : Nat → Int32) (L : Nat) (N : Nat) (x1 : Int32) (σ : aSt) (q : Int32 × aSt) (h : J_X8_intToken_59 N x1 σ = some q) (hG : Gr σ) : Ev xs L 52 59 [.ref 1, .int x1] [] σ (wI q.1) q.2 ∧ Gr q.2 := by
  have h : (if ((aI σ 1 4) - (aI σ 1 5)) ≤ 4 then J_X8_intToken_81 N (32 + x1) σ else J_X8_intToken_81 N 26 σ) = some q := h
  refine ev_a (fun he => ev_aload rfl rfl he) ?_
  refine ev_a (fun he => ev_getI rfl (gr_ob (n := 12) hG rfl) he) ?_
  refine ev_a (fun he => ev_aload rfl rfl he) ?_
  refine ev_a (fun he => ev_getI rfl (gr_ob (n := 12) hG rfl) he) ?_
  refine ev_a (fun he => ev_bin (z := (aI σ 1 4) - (aI σ 1 5)) rfl rfl he) ?_
  refine ev_a (fun he => ev_push rfl he) ?_
  refine ev_b (c := ((aI σ 1 4) - (aI σ 1 5)) ≤ 4) (fun ht hf => ev_cle rfl ht hf) (fun hc1 => ?_) (fun hc1 => ?_)
  · rw [if_pos hc1] at h
    refine ev_a (fun he => ev_push rfl he) ?_
    refine ev_a (fun he => ev_iload rfl rfl he) ?_
    refine ev_a (fun he => ev_bin (z := 32 + x1) rfl rfl he) ?_
    exact TJ_X8_intToken_81 xs L N (32 + x1) (.ref 1) (.int x1) σ q h hG
  · rw [if_neg hc1] at h
    refine ev_a (fun he => ev_push rfl he) ?_
    refine ev_a (fun he => ev_goto rfl he) ?_
    exact TJ_X8_intToken_81 xs L N 26 (.ref 1) (.int x1) σ q h hG
def H_X8_intToken_2 (N : Nat) : Nat → Int32 → aSt → Option (Int32 × aSt)
  | 0, _, _ => none
  | n + 1, x1, σ => if (aI σ 1 0) ≤ (aI σ 1 4) then J_X8_intToken_59 N x1 σ else cO (¬ ((aI σ 1 4) < 0 ∨ 2000 ≤ (aI σ 1 4).toNatClampNeg)) (oB (F_X8_isDigit N (aI σ 9 (aI σ 1 4).toNatClampNeg) σ) fun y4 σ5 => if y4 = 0 then J_X8_intToken_59 N x1 σ5 else cO (¬ ((aI σ5 1 4) < 0 ∨ 2000 ≤ (aI σ5 1 4).toNatClampNeg)) (lt (aWI σ5 1 4 ((aI σ5 1 4) + 1)) fun σ11 => (H_X8_intToken_2 N n) ((x1 * 10) + ((aI σ5 9 (aI σ5 1 4).toNatClampNeg) - 48)) σ11))
set_option maxRecDepth 20000 in
set_option maxHeartbeats 4000000 in
theorem TH_X8_intToken_2 (xs : Nat → Int32) (L : Nat) (N : Nat) : ∀ (n : Nat) (x1 : Int32) (σ : aSt) (q : Int32 × aSt), H_X8_intToken_2 N n x1 σ = some q → Gr σ → Ev xs L 52 2 [.ref 1, .int x1] [] σ (wI q.1) q.2 ∧ Gr q.2 := by
  intro n
  induction n with
  | zero =>
    intro x1 σ q h hG
    exact absurd (show (none : Option (Int32 × aSt)) = some q from h) (by simp)
  | succ n ih =>
    intro x1 σ q h hG
    have hk2 : ∀ (x1 : Int32) (σ : aSt) (q : Int32 × aSt), H_X8_intToken_2 N n x1 σ = some q → Gr σ → Ev xs L 52 2 [.ref 1, .int x1] [] σ (wI q.1) q.2 ∧ Gr q.2 := ih
    have h : (if (aI σ 1 0) ≤ (aI σ 1 4) then J_X8_intToken_59 N x1 σ else cO (¬ ((aI σ 1 4) < 0 ∨ 2000 ≤ (aI σ 1 4).toNatClampNeg)) (oB (F_X8_isDigit N (aI σ 9 (aI σ 1 4).toNatClampNeg) σ) fun y4 σ5 => if y4 = 0 then J_X8_intToken_59 N x1 σ5 else cO (¬ ((aI σ5 1 4) < 0 ∨ 2000 ≤ (aI σ5 1 4).toNatClampNeg)) (lt (aWI σ5 1 4 ((aI σ5 1 4) + 1)) fun σ11 => (H_X8_intToken_2 N n) ((x1 * 10) + ((aI σ5 9 (aI σ5 1 4).toNatClampNeg) - 48)) σ11))) = some q := h
    refine ev_a (fun he => ev_aload rfl rfl he) ?_
    refine ev_a (fun he => ev_getI rfl (gr_ob (n := 12) hG rfl) he) ?_
    refine ev_a (fun he => ev_aload rfl rfl he) ?_
    refine ev_a (fun he => ev_getI rfl (gr_ob (n := 12) hG rfl) he) ?_
    refine ev_b (c := (aI σ 1 0) ≤ (aI σ 1 4)) (fun ht hf => ev_cge rfl ht hf) (fun hc2 => ?_) (fun hc2 => ?_)
    · rw [if_pos hc2] at h
      exact TJ_X8_intToken_59 xs L N x1 σ q h hG
    · rw [if_neg hc2] at h
      refine ev_a (fun he => ev_aload rfl rfl he) ?_
      refine ev_a (fun he => ev_getR rfl (gr_ob (n := 12) hG rfl) (gr_p (a := 1) (k := 3) (b := 9) hG rfl) he) ?_
      refine ev_a (fun he => ev_aload rfl rfl he) ?_
      refine ev_a (fun he => ev_getI rfl (gr_ob (n := 12) hG rfl) he) ?_
      obtain ⟨hc3, h⟩ := cO_inv h
      refine ev_a (fun he => ev_aldI (k := (aI σ 1 4).toNatClampNeg) rfl (gr_ar hG rfl) hc3 rfl he) ?_
      obtain ⟨y4, σ5, h6, h⟩ := oB_inv h
      obtain ⟨c7, hG8⟩ := T_X8_isDigit xs L N (aI σ 9 (aI σ 1 4).toNatClampNeg) σ (y4, σ5) h6 hG
      refine ev_a (fun he => ev_callS (as := [.int (aI σ 9 (aI σ 1 4).toNatClampNeg)]) rfl rfl rfl rfl (Nat.le_of_ble_eq_true rfl) (Nat.le_of_ble_eq_true rfl) c7 he) ?_
      refine ev_b (c := y4 = 0) (fun ht hf => ev_ifeq rfl ht hf) (fun hc9 => ?_) (fun hc9 => ?_)
      · rw [if_pos hc9] at h
        exact TJ_X8_intToken_59 xs L N x1 σ5 q h hG8
      · rw [if_neg hc9] at h
        refine ev_a (fun he => ev_iload rfl rfl he) ?_
        refine ev_a (fun he => ev_push rfl he) ?_
        refine ev_a (fun he => ev_bin (z := x1 * 10) rfl rfl he) ?_
        refine ev_a (fun he => ev_aload rfl rfl he) ?_
        refine ev_a (fun he => ev_getR rfl (gr_ob (n := 12) hG8 rfl) (gr_p (a := 1) (k := 3) (b := 9) hG8 rfl) he) ?_
        refine ev_a (fun he => ev_aload rfl rfl he) ?_
        refine ev_a (fun he => ev_getI rfl (gr_ob (n := 12) hG8 rfl) he) ?_
        obtain ⟨hc10, h⟩ := cO_inv h
        refine ev_a (fun he => ev_aldI (k := (aI σ5 1 4).toNatClampNeg) rfl (gr_ar hG8 rfl) hc10 rfl he) ?_
        refine ev_a (fun he => ev_push rfl he) ?_
        refine ev_a (fun he => ev_bin (z := (aI σ5 9 (aI σ5 1 4).toNatClampNeg) - 48) rfl rfl he) ?_
        refine ev_a (fun he => ev_bin (z := (x1 * 10) + ((aI σ5 9 (aI σ5 1 4).toNatClampNeg) - 48)) rfl rfl he) ?_
        refine ev_a (fun he => ev_istore (ls' := [.ref 1, .int ((x1 * 10) + ((aI σ5 9 (aI σ5 1 4).toNatClampNeg) - 48))]) rfl (Nat.le_of_ble_eq_true rfl) rfl he) ?_
        refine ev_a (fun he => ev_aload rfl rfl he) ?_
        refine ev_a (fun he => ev_dupR rfl he) ?_
        refine ev_a (fun he => ev_getI rfl (gr_ob (n := 12) hG8 rfl) he) ?_
        refine ev_a (fun he => ev_push rfl he) ?_
        refine ev_a (fun he => ev_bin (z := (aI σ5 1 4) + 1) rfl rfl he) ?_
        obtain ⟨σ11, e12, h⟩ := lt_inv h
        have hG13 : Gr σ11 := gr_wi e12 hG8
        refine ev_a (fun he => ev_putI rfl (gr_ob (n := 12) hG8 rfl) e12 he) ?_
        refine ev_a (fun he => ev_goto rfl he) ?_
        exact hk2 ((x1 * 10) + ((aI σ5 9 (aI σ5 1 4).toNatClampNeg) - 48)) σ11 q h hG13
def F_X8_intToken (N : Nat) (σ : aSt) : Option (Int32 × aSt) := H_X8_intToken_2 N N 0 σ
set_option maxRecDepth 20000 in
set_option maxHeartbeats 4000000 in
theorem T_X8_intToken (xs : Nat → Int32) (L : Nat) (N : Nat) (σ : aSt) (q : Int32 × aSt) (h : F_X8_intToken N σ = some q) (hG : Gr σ) : Cal xs L 52 [.ref 1] σ (wI q.1) q.2 ∧ Gr q.2 := by
  have h : (H_X8_intToken_2 N N 0 σ) = some q := h
  show Ev xs L 52 0 [.ref 1, aU] [] σ (wI q.1) q.2 ∧ Gr q.2
  refine ev_a (fun he => ev_push rfl he) ?_
  refine ev_a (fun he => ev_istore (ls' := [.ref 1, .int 0]) rfl (Nat.le_of_ble_eq_true rfl) rfl he) ?_
  exact TH_X8_intToken_2 xs L N N 0 σ q h hG
def J_X8_withEqualSign_37 (N : Nat) (x2 : Int32) (σ : aSt) : Option (Int32 × aSt) := some (x2, σ)
set_option maxRecDepth 20000 in
set_option maxHeartbeats 4000000 in
theorem TJ_X8_withEqualSign_37 (xs : Nat → Int32) (L : Nat) (N : Nat) (x2 : Int32) (d0 : Value) (d1 : Value) (σ : aSt) (q : Int32 × aSt) (h : J_X8_withEqualSign_37 N x2 σ = some q) (hG : Gr σ) : Ev xs L 54 37 [d0, d1, .int x2] [] σ (wI q.1) q.2 ∧ Gr q.2 := by
  have h : (some (x2, σ)) = some q := h
  refine ev_a (fun he => ev_iload rfl rfl he) ?_
  cases h
  exact ⟨ev_retI rfl, hG⟩
def F_X8_withEqualSign (N : Nat) (x1 : Int32) (x2 : Int32) (σ : aSt) : Option (Int32 × aSt) := if (aI σ 1 0) ≤ (aI σ 1 4) then J_X8_withEqualSign_37 N x2 σ else cO (¬ ((aI σ 1 4) < 0 ∨ 2000 ≤ (aI σ 1 4).toNatClampNeg)) (if (aI σ 9 (aI σ 1 4).toNatClampNeg) ≠ 61 then J_X8_withEqualSign_37 N x2 σ else lt (aWI σ 1 4 ((aI σ 1 4) + 1)) fun σ4 => some (x1, σ4))
set_option maxRecDepth 20000 in
set_option maxHeartbeats 4000000 in
theorem T_X8_withEqualSign (xs : Nat → Int32) (L : Nat) (N : Nat) (x1 : Int32) (x2 : Int32) (σ : aSt) (q : Int32 × aSt) (h : F_X8_withEqualSign N x1 x2 σ = some q) (hG : Gr σ) : Cal xs L 54 [.ref 1, .int x1, .int x2] σ (wI q.1) q.2 ∧ Gr q.2 := by
  have h : (if (aI σ 1 0) ≤ (aI σ 1 4) then J_X8_withEqualSign_37 N x2 σ else cO (¬ ((aI σ 1 4) < 0 ∨ 2000 ≤ (aI σ 1 4).toNatClampNeg)) (if (aI σ 9 (aI σ 1 4).toNatClampNeg) ≠ 61 then J_X8_withEqualSign_37 N x2 σ else lt (aWI σ 1 4 ((aI σ 1 4) + 1)) fun σ4 => some (x1, σ4))) = some q := h
  show Ev xs L 54 0 [.ref 1, .int x1, .int x2] [] σ (wI q.1) q.2 ∧ Gr q.2
  refine ev_a (fun he => ev_aload rfl rfl he) ?_
  refine ev_a (fun he => ev_getI rfl (gr_ob (n := 12) hG rfl) he) ?_
  refine ev_a (fun he => ev_aload rfl rfl he) ?_
  refine ev_a (fun he => ev_getI rfl (gr_ob (n := 12) hG rfl) he) ?_
  refine ev_b (c := (aI σ 1 0) ≤ (aI σ 1 4)) (fun ht hf => ev_cge rfl ht hf) (fun hc1 => ?_) (fun hc1 => ?_)
  · rw [if_pos hc1] at h
    exact TJ_X8_withEqualSign_37 xs L N x2 (.ref 1) (.int x1) σ q h hG
  · rw [if_neg hc1] at h
    refine ev_a (fun he => ev_aload rfl rfl he) ?_
    refine ev_a (fun he => ev_getR rfl (gr_ob (n := 12) hG rfl) (gr_p (a := 1) (k := 3) (b := 9) hG rfl) he) ?_
    refine ev_a (fun he => ev_aload rfl rfl he) ?_
    refine ev_a (fun he => ev_getI rfl (gr_ob (n := 12) hG rfl) he) ?_
    obtain ⟨hc2, h⟩ := cO_inv h
    refine ev_a (fun he => ev_aldI (k := (aI σ 1 4).toNatClampNeg) rfl (gr_ar hG rfl) hc2 rfl he) ?_
    refine ev_a (fun he => ev_push rfl he) ?_
    refine ev_b (c := (aI σ 9 (aI σ 1 4).toNatClampNeg) ≠ 61) (fun ht hf => ev_cne rfl ht hf) (fun hc3 => ?_) (fun hc3 => ?_)
    · rw [if_pos hc3] at h
      exact TJ_X8_withEqualSign_37 xs L N x2 (.ref 1) (.int x1) σ q h hG
    · rw [if_neg hc3] at h
      refine ev_a (fun he => ev_aload rfl rfl he) ?_
      refine ev_a (fun he => ev_dupR rfl he) ?_
      refine ev_a (fun he => ev_getI rfl (gr_ob (n := 12) hG rfl) he) ?_
      refine ev_a (fun he => ev_push rfl he) ?_
      refine ev_a (fun he => ev_bin (z := (aI σ 1 4) + 1) rfl rfl he) ?_
      obtain ⟨σ4, e5, h⟩ := lt_inv h
      have hG6 : Gr σ4 := gr_wi e5 hG
      refine ev_a (fun he => ev_putI rfl (gr_ob (n := 12) hG rfl) e5 he) ?_
      refine ev_a (fun he => ev_iload rfl rfl he) ?_
      cases h
      exact ⟨ev_retI rfl, hG6⟩
def J_X8_signToken_185 (N : Nat) (σ : aSt) : Option (Int32 × aSt) := some (26, σ)
set_option maxRecDepth 20000 in
set_option maxHeartbeats 4000000 in
theorem TJ_X8_signToken_185 (xs : Nat → Int32) (L : Nat) (N : Nat) (d0 : Value) (d1 : Value) (σ : aSt) (q : Int32 × aSt) (h : J_X8_signToken_185 N  σ = some q) (hG : Gr σ) : Ev xs L 53 185 [d0, d1] [] σ (wI q.1) q.2 ∧ Gr q.2 := by
  have h : (some (26, σ)) = some q := h
  refine ev_a (fun he => ev_push rfl he) ?_
  cases h
  exact ⟨ev_retI rfl, hG⟩
def F_X8_signToken (N : Nat) (x1 : Int32) (σ : aSt) : Option (Int32 × aSt) := lt (aWI σ 1 4 ((aI σ 1 4) + 1)) fun σ1 => if x1 = 33 then (oB (F_X8_withEqualSign N 21 26 σ1) fun y5 σ6 => some (y5, σ6)) else if x1 = 40 then (some (24, σ1)) else if x1 = 41 then (some (25, σ1)) else if x1 = 42 then (some (19, σ1)) else if x1 = 43 then (some (17, σ1)) else if x1 = 45 then (some (18, σ1)) else if x1 = 59 then (some (16, σ1)) else if x1 = 60 then (oB (F_X8_withEqualSign N 23 22 σ1) fun y17 σ18 => some (y17, σ18)) else if x1 = 61 then (oB (F_X8_withEqualSign N 20 26 σ1) fun y23 σ24 => some (y23, σ24)) else J_X8_signToken_185 N σ1
set_option maxRecDepth 20000 in
set_option maxHeartbeats 4000000 in
theorem T_X8_signToken (xs : Nat → Int32) (L : Nat) (N : Nat) (x1 : Int32) (σ : aSt) (q : Int32 × aSt) (h : F_X8_signToken N x1 σ = some q) (hG : Gr σ) : Cal xs L 53 [.ref 1, .int x1] σ (wI q.1) q.2 ∧ Gr q.2 := by
  have h : (lt (aWI σ 1 4 ((aI σ 1 4) + 1)) fun σ1 => if x1 = 33 then (oB (F_X8_withEqualSign N 21 26 σ1) fun y5 σ6 => some (y5, σ6)) else if x1 = 40 then (some (24, σ1)) else if x1 = 41 then (some (25, σ1)) else if x1 = 42 then (some (19, σ1)) else if x1 = 43 then (some (17, σ1)) else if x1 = 45 then (some (18, σ1)) else if x1 = 59 then (some (16, σ1)) else if x1 = 60 then (oB (F_X8_withEqualSign N 23 22 σ1) fun y17 σ18 => some (y17, σ18)) else if x1 = 61 then (oB (F_X8_withEqualSign N 20 26 σ1) fun y23 σ24 => some (y23, σ24)) else J_X8_signToken_185 N σ1) = some q := h
  show Ev xs L 53 0 [.ref 1, .int x1] [] σ (wI q.1) q.2 ∧ Gr q.2
  refine ev_a (fun he => ev_aload rfl rfl he) ?_
  refine ev_a (fun he => ev_dupR rfl he) ?_
  refine ev_a (fun he => ev_getI rfl (gr_ob (n := 12) hG rfl) he) ?_
  refine ev_a (fun he => ev_push rfl he) ?_
  refine ev_a (fun he => ev_bin (z := (aI σ 1 4) + 1) rfl rfl he) ?_
  obtain ⟨σ1, e2, h⟩ := lt_inv h
  have hG3 : Gr σ1 := gr_wi e2 hG
  refine ev_a (fun he => ev_putI rfl (gr_ob (n := 12) hG rfl) e2 he) ?_
  refine ev_a (fun he => ev_iload rfl rfl he) ?_
  by_cases hz4 : x1 = 33
  · rw [if_pos hz4] at h
    refine ev_a (fun he => ev_tab (t := 167) rfl (by rw [hz4]; decide) he) ?_
    refine ev_a (fun he => ev_aload rfl rfl he) ?_
    refine ev_a (fun he => ev_push rfl he) ?_
    refine ev_a (fun he => ev_push rfl he) ?_
    obtain ⟨y5, σ6, h7, h⟩ := oB_inv h
    obtain ⟨c8, hG9⟩ := T_X8_withEqualSign xs L N 21 26 σ1 (y5, σ6) h7 hG3
    refine ev_a (fun he => ev_callV (as := [.int 21, .int 26]) rfl (gr_ob (n := 12) hG3 rfl) rfl rfl rfl (Nat.le_of_ble_eq_true rfl) (Nat.le_of_ble_eq_true rfl) c8 he) ?_
    cases h
    exact ⟨ev_retI rfl, hG9⟩
  · rw [if_neg hz4] at h
    by_cases hz10 : x1 = 40
    · rw [if_pos hz10] at h
      refine ev_a (fun he => ev_tab (t := 152) rfl (by rw [hz10]; decide) he) ?_
      refine ev_a (fun he => ev_push rfl he) ?_
      cases h
      exact ⟨ev_retI rfl, hG3⟩
    · rw [if_neg hz10] at h
      by_cases hz11 : x1 = 41
      · rw [if_pos hz11] at h
        refine ev_a (fun he => ev_tab (t := 155) rfl (by rw [hz11]; decide) he) ?_
        refine ev_a (fun he => ev_push rfl he) ?_
        cases h
        exact ⟨ev_retI rfl, hG3⟩
      · rw [if_neg hz11] at h
        by_cases hz12 : x1 = 42
        · rw [if_pos hz12] at h
          refine ev_a (fun he => ev_tab (t := 149) rfl (by rw [hz12]; decide) he) ?_
          refine ev_a (fun he => ev_push rfl he) ?_
          cases h
          exact ⟨ev_retI rfl, hG3⟩
        · rw [if_neg hz12] at h
          by_cases hz13 : x1 = 43
          · rw [if_pos hz13] at h
            refine ev_a (fun he => ev_tab (t := 143) rfl (by rw [hz13]; decide) he) ?_
            refine ev_a (fun he => ev_push rfl he) ?_
            cases h
            exact ⟨ev_retI rfl, hG3⟩
          · rw [if_neg hz13] at h
            by_cases hz14 : x1 = 45
            · rw [if_pos hz14] at h
              refine ev_a (fun he => ev_tab (t := 146) rfl (by rw [hz14]; decide) he) ?_
              refine ev_a (fun he => ev_push rfl he) ?_
              cases h
              exact ⟨ev_retI rfl, hG3⟩
            · rw [if_neg hz14] at h
              by_cases hz15 : x1 = 59
              · rw [if_pos hz15] at h
                refine ev_a (fun he => ev_tab (t := 140) rfl (by rw [hz15]; decide) he) ?_
                refine ev_a (fun he => ev_push rfl he) ?_
                cases h
                exact ⟨ev_retI rfl, hG3⟩
              · rw [if_neg hz15] at h
                by_cases hz16 : x1 = 60
                · rw [if_pos hz16] at h
                  refine ev_a (fun he => ev_tab (t := 176) rfl (by rw [hz16]; decide) he) ?_
                  refine ev_a (fun he => ev_aload rfl rfl he) ?_
                  refine ev_a (fun he => ev_push rfl he) ?_
                  refine ev_a (fun he => ev_push rfl he) ?_
                  obtain ⟨y17, σ18, h19, h⟩ := oB_inv h
                  obtain ⟨c20, hG21⟩ := T_X8_withEqualSign xs L N 23 22 σ1 (y17, σ18) h19 hG3
                  refine ev_a (fun he => ev_callV (as := [.int 23, .int 22]) rfl (gr_ob (n := 12) hG3 rfl) rfl rfl rfl (Nat.le_of_ble_eq_true rfl) (Nat.le_of_ble_eq_true rfl) c20 he) ?_
                  cases h
                  exact ⟨ev_retI rfl, hG21⟩
                · rw [if_neg hz16] at h
                  by_cases hz22 : x1 = 61
                  · rw [if_pos hz22] at h
                    refine ev_a (fun he => ev_tab (t := 158) rfl (by rw [hz22]; decide) he) ?_
                    refine ev_a (fun he => ev_aload rfl rfl he) ?_
                    refine ev_a (fun he => ev_push rfl he) ?_
                    refine ev_a (fun he => ev_push rfl he) ?_
                    obtain ⟨y23, σ24, h25, h⟩ := oB_inv h
                    obtain ⟨c26, hG27⟩ := T_X8_withEqualSign xs L N 20 26 σ1 (y23, σ24) h25 hG3
                    refine ev_a (fun he => ev_callV (as := [.int 20, .int 26]) rfl (gr_ob (n := 12) hG3 rfl) rfl rfl rfl (Nat.le_of_ble_eq_true rfl) (Nat.le_of_ble_eq_true rfl) c26 he) ?_
                    cases h
                    exact ⟨ev_retI rfl, hG27⟩
                  · rw [if_neg hz22] at h
                    refine ev_a (fun he => ev_tab (t := 185) rfl (aSwt_d [33, 40, 41, 42, 43, 45, 59, 60, 61] rfl (by decide) (List.forall_mem_cons.mpr ⟨hz4, (List.forall_mem_cons.mpr ⟨hz10, (List.forall_mem_cons.mpr ⟨hz11, (List.forall_mem_cons.mpr ⟨hz12, (List.forall_mem_cons.mpr ⟨hz13, (List.forall_mem_cons.mpr ⟨hz14, (List.forall_mem_cons.mpr ⟨hz15, (List.forall_mem_cons.mpr ⟨hz16, (List.forall_mem_cons.mpr ⟨hz22, (fun _ hm => absurd hm List.not_mem_nil)⟩)⟩)⟩)⟩)⟩)⟩)⟩)⟩)⟩)) he) ?_
                    exact TJ_X8_signToken_185 xs L N (.ref 1) (.int x1) σ1 q h hG3
def J_X8_nextToken_102 (N : Nat) (s0 : Int32) (σ : aSt) : Option (Int32 × aSt) := some (s0, σ)
set_option maxRecDepth 20000 in
set_option maxHeartbeats 4000000 in
theorem TJ_X8_nextToken_102 (xs : Nat → Int32) (L : Nat) (N : Nat) (s0 : Int32) (d0 : Value) (d1 : Value) (σ : aSt) (q : Int32 × aSt) (h : J_X8_nextToken_102 N s0 σ = some q) (hG : Gr σ) : Ev xs L 49 102 [d0, d1] [.int s0] σ (wI q.1) q.2 ∧ Gr q.2 := by
  have h : (some (s0, σ)) = some q := h
  cases h
  exact ⟨ev_retI rfl, hG⟩
def J_X8_nextToken_39 (N : Nat) (σ : aSt) : Option (Int32 × aSt) := lt (aWI σ 1 5 (aI σ 1 4)) fun σ1 => if (aI σ1 1 4) < (aI σ1 1 0) then cO (¬ ((aI σ1 1 4) < 0 ∨ 2000 ≤ (aI σ1 1 4).toNatClampNeg)) (oB (F_X8_isLetter N (aI σ1 9 (aI σ1 1 4).toNatClampNeg) σ1) fun y6 σ7 => if y6 = 0 then oB (F_X8_isDigit N (aI σ1 9 (aI σ1 1 4).toNatClampNeg) σ7) fun y12 σ13 => if y12 = 0 then oB (F_X8_signToken N (aI σ1 9 (aI σ1 1 4).toNatClampNeg) σ13) fun y18 σ19 => J_X8_nextToken_102 N y18 σ19 else oB (F_X8_intToken N σ13) fun y23 σ24 => J_X8_nextToken_102 N y23 σ24 else oB (F_X8_wordToken N σ7) fun y28 σ29 => some (y28, σ29)) else some (27, σ1)
set_option maxRecDepth 20000 in
set_option maxHeartbeats 4000000 in
theorem TJ_X8_nextToken_39 (xs : Nat → Int32) (L : Nat) (N : Nat) (d1 : Value) (σ : aSt) (q : Int32 × aSt) (h : J_X8_nextToken_39 N  σ = some q) (hG : Gr σ) : Ev xs L 49 39 [.ref 1, d1] [] σ (wI q.1) q.2 ∧ Gr q.2 := by
  have h : (lt (aWI σ 1 5 (aI σ 1 4)) fun σ1 => if (aI σ1 1 4) < (aI σ1 1 0) then cO (¬ ((aI σ1 1 4) < 0 ∨ 2000 ≤ (aI σ1 1 4).toNatClampNeg)) (oB (F_X8_isLetter N (aI σ1 9 (aI σ1 1 4).toNatClampNeg) σ1) fun y6 σ7 => if y6 = 0 then oB (F_X8_isDigit N (aI σ1 9 (aI σ1 1 4).toNatClampNeg) σ7) fun y12 σ13 => if y12 = 0 then oB (F_X8_signToken N (aI σ1 9 (aI σ1 1 4).toNatClampNeg) σ13) fun y18 σ19 => J_X8_nextToken_102 N y18 σ19 else oB (F_X8_intToken N σ13) fun y23 σ24 => J_X8_nextToken_102 N y23 σ24 else oB (F_X8_wordToken N σ7) fun y28 σ29 => some (y28, σ29)) else some (27, σ1)) = some q := h
  refine ev_a (fun he => ev_aload rfl rfl he) ?_
  refine ev_a (fun he => ev_aload rfl rfl he) ?_
  refine ev_a (fun he => ev_getI rfl (gr_ob (n := 12) hG rfl) he) ?_
  obtain ⟨σ1, e2, h⟩ := lt_inv h
  have hG3 : Gr σ1 := gr_wi e2 hG
  refine ev_a (fun he => ev_putI rfl (gr_ob (n := 12) hG rfl) e2 he) ?_
  refine ev_a (fun he => ev_aload rfl rfl he) ?_
  refine ev_a (fun he => ev_getI rfl (gr_ob (n := 12) hG3 rfl) he) ?_
  refine ev_a (fun he => ev_aload rfl rfl he) ?_
  refine ev_a (fun he => ev_getI rfl (gr_ob (n := 12) hG3 rfl) he) ?_
  refine ev_b (c := (aI σ1 1 4) < (aI σ1 1 0)) (fun ht hf => ev_clt rfl ht hf) (fun hc4 => ?_) (fun hc4 => ?_)
  · rw [if_pos hc4] at h
    refine ev_a (fun he => ev_aload rfl rfl he) ?_
    refine ev_a (fun he => ev_getR rfl (gr_ob (n := 12) hG3 rfl) (gr_p (a := 1) (k := 3) (b := 9) hG3 rfl) he) ?_
    refine ev_a (fun he => ev_aload rfl rfl he) ?_
    refine ev_a (fun he => ev_getI rfl (gr_ob (n := 12) hG3 rfl) he) ?_
    obtain ⟨hc5, h⟩ := cO_inv h
    refine ev_a (fun he => ev_aldI (k := (aI σ1 1 4).toNatClampNeg) rfl (gr_ar hG3 rfl) hc5 rfl he) ?_
    refine ev_a (fun he => ev_istore (ls' := [.ref 1, .int (aI σ1 9 (aI σ1 1 4).toNatClampNeg)]) rfl (Nat.le_of_ble_eq_true rfl) rfl he) ?_
    refine ev_a (fun he => ev_iload rfl rfl he) ?_
    obtain ⟨y6, σ7, h8, h⟩ := oB_inv h
    obtain ⟨c9, hG10⟩ := T_X8_isLetter xs L N (aI σ1 9 (aI σ1 1 4).toNatClampNeg) σ1 (y6, σ7) h8 hG3
    refine ev_a (fun he => ev_callS (as := [.int (aI σ1 9 (aI σ1 1 4).toNatClampNeg)]) rfl rfl rfl rfl (Nat.le_of_ble_eq_true rfl) (Nat.le_of_ble_eq_true rfl) c9 he) ?_
    refine ev_b (c := y6 = 0) (fun ht hf => ev_ifeq rfl ht hf) (fun hc11 => ?_) (fun hc11 => ?_)
    · rw [if_pos hc11] at h
      refine ev_a (fun he => ev_iload rfl rfl he) ?_
      obtain ⟨y12, σ13, h14, h⟩ := oB_inv h
      obtain ⟨c15, hG16⟩ := T_X8_isDigit xs L N (aI σ1 9 (aI σ1 1 4).toNatClampNeg) σ7 (y12, σ13) h14 hG10
      refine ev_a (fun he => ev_callS (as := [.int (aI σ1 9 (aI σ1 1 4).toNatClampNeg)]) rfl rfl rfl rfl (Nat.le_of_ble_eq_true rfl) (Nat.le_of_ble_eq_true rfl) c15 he) ?_
      refine ev_b (c := y12 = 0) (fun ht hf => ev_ifeq rfl ht hf) (fun hc17 => ?_) (fun hc17 => ?_)
      · rw [if_pos hc17] at h
        refine ev_a (fun he => ev_aload rfl rfl he) ?_
        refine ev_a (fun he => ev_iload rfl rfl he) ?_
        obtain ⟨y18, σ19, h20, h⟩ := oB_inv h
        obtain ⟨c21, hG22⟩ := T_X8_signToken xs L N (aI σ1 9 (aI σ1 1 4).toNatClampNeg) σ13 (y18, σ19) h20 hG16
        refine ev_a (fun he => ev_callV (as := [.int (aI σ1 9 (aI σ1 1 4).toNatClampNeg)]) rfl (gr_ob (n := 12) hG16 rfl) rfl rfl rfl (Nat.le_of_ble_eq_true rfl) (Nat.le_of_ble_eq_true rfl) c21 he) ?_
        exact TJ_X8_nextToken_102 xs L N y18 (.ref 1) (.int (aI σ1 9 (aI σ1 1 4).toNatClampNeg)) σ19 q h hG22
      · rw [if_neg hc17] at h
        refine ev_a (fun he => ev_aload rfl rfl he) ?_
        obtain ⟨y23, σ24, h25, h⟩ := oB_inv h
        obtain ⟨c26, hG27⟩ := T_X8_intToken xs L N σ13 (y23, σ24) h25 hG16
        refine ev_a (fun he => ev_callV (as := []) rfl (gr_ob (n := 12) hG16 rfl) rfl rfl rfl (Nat.le_of_ble_eq_true rfl) (Nat.le_of_ble_eq_true rfl) c26 he) ?_
        refine ev_a (fun he => ev_goto rfl he) ?_
        exact TJ_X8_nextToken_102 xs L N y23 (.ref 1) (.int (aI σ1 9 (aI σ1 1 4).toNatClampNeg)) σ24 q h hG27
    · rw [if_neg hc11] at h
      refine ev_a (fun he => ev_aload rfl rfl he) ?_
      obtain ⟨y28, σ29, h30, h⟩ := oB_inv h
      obtain ⟨c31, hG32⟩ := T_X8_wordToken xs L N σ7 (y28, σ29) h30 hG10
      refine ev_a (fun he => ev_callV (as := []) rfl (gr_ob (n := 12) hG10 rfl) rfl rfl rfl (Nat.le_of_ble_eq_true rfl) (Nat.le_of_ble_eq_true rfl) c31 he) ?_
      cases h
      exact ⟨ev_retI rfl, hG32⟩
  · rw [if_neg hc4] at h
    refine ev_a (fun he => ev_push rfl he) ?_
    cases h
    exact ⟨ev_retI rfl, hG3⟩
def H_X8_nextToken_0 (N : Nat) : Nat → aSt → Option (Int32 × aSt)
  | 0, _ => none
  | n + 1, σ => if (aI σ 1 0) ≤ (aI σ 1 4) then J_X8_nextToken_39 N σ else cO (¬ ((aI σ 1 4) < 0 ∨ 2000 ≤ (aI σ 1 4).toNatClampNeg)) (oB (F_X8_isBlank N (aI σ 9 (aI σ 1 4).toNatClampNeg) σ) fun y35 σ36 => if y35 = 0 then J_X8_nextToken_39 N σ36 else lt (aWI σ36 1 4 ((aI σ36 1 4) + 1)) fun σ41 => (H_X8_nextToken_0 N n) σ41)
set_option maxRecDepth 20000 in
set_option maxHeartbeats 4000000 in
theorem TH_X8_nextToken_0 (xs : Nat → Int32) (L : Nat) (N : Nat) : ∀ (n : Nat) (d1 : Value) (σ : aSt) (q : Int32 × aSt), H_X8_nextToken_0 N n  σ = some q → Gr σ → Ev xs L 49 0 [.ref 1, d1] [] σ (wI q.1) q.2 ∧ Gr q.2 := by
  intro n
  induction n with
  | zero =>
    intro d1 σ q h hG
    exact absurd (show (none : Option (Int32 × aSt)) = some q from h) (by simp)
  | succ n ih =>
    intro d1 σ q h hG
    have hk0 : ∀ (d1 : Value) (σ : aSt) (q : Int32 × aSt), H_X8_nextToken_0 N n  σ = some q → Gr σ → Ev xs L 49 0 [.ref 1, d1] [] σ (wI q.1) q.2 ∧ Gr q.2 := ih
    have h : (if (aI σ 1 0) ≤ (aI σ 1 4) then J_X8_nextToken_39 N σ else cO (¬ ((aI σ 1 4) < 0 ∨ 2000 ≤ (aI σ 1 4).toNatClampNeg)) (oB (F_X8_isBlank N (aI σ 9 (aI σ 1 4).toNatClampNeg) σ) fun y35 σ36 => if y35 = 0 then J_X8_nextToken_39 N σ36 else lt (aWI σ36 1 4 ((aI σ36 1 4) + 1)) fun σ41 => (H_X8_nextToken_0 N n) σ41)) = some q := h
    refine ev_a (fun he => ev_aload rfl rfl he) ?_
    refine ev_a (fun he => ev_getI rfl (gr_ob (n := 12) hG rfl) he) ?_
    refine ev_a (fun he => ev_aload rfl rfl he) ?_
    refine ev_a (fun he => ev_getI rfl (gr_ob (n := 12) hG rfl) he) ?_
    refine ev_b (c := (aI σ 1 0) ≤ (aI σ 1 4)) (fun ht hf => ev_cge rfl ht hf) (fun hc33 => ?_) (fun hc33 => ?_)
    · rw [if_pos hc33] at h
      exact TJ_X8_nextToken_39 xs L N (d1) σ q h hG
    · rw [if_neg hc33] at h
      refine ev_a (fun he => ev_aload rfl rfl he) ?_
      refine ev_a (fun he => ev_getR rfl (gr_ob (n := 12) hG rfl) (gr_p (a := 1) (k := 3) (b := 9) hG rfl) he) ?_
      refine ev_a (fun he => ev_aload rfl rfl he) ?_
      refine ev_a (fun he => ev_getI rfl (gr_ob (n := 12) hG rfl) he) ?_
      obtain ⟨hc34, h⟩ := cO_inv h
      refine ev_a (fun he => ev_aldI (k := (aI σ 1 4).toNatClampNeg) rfl (gr_ar hG rfl) hc34 rfl he) ?_
      obtain ⟨y35, σ36, h37, h⟩ := oB_inv h
      obtain ⟨c38, hG39⟩ := T_X8_isBlank xs L N (aI σ 9 (aI σ 1 4).toNatClampNeg) σ (y35, σ36) h37 hG
      refine ev_a (fun he => ev_callS (as := [.int (aI σ 9 (aI σ 1 4).toNatClampNeg)]) rfl rfl rfl rfl (Nat.le_of_ble_eq_true rfl) (Nat.le_of_ble_eq_true rfl) c38 he) ?_
      refine ev_b (c := y35 = 0) (fun ht hf => ev_ifeq rfl ht hf) (fun hc40 => ?_) (fun hc40 => ?_)
      · rw [if_pos hc40] at h
        exact TJ_X8_nextToken_39 xs L N (d1) σ36 q h hG39
      · rw [if_neg hc40] at h
        refine ev_a (fun he => ev_aload rfl rfl he) ?_
        refine ev_a (fun he => ev_dupR rfl he) ?_
        refine ev_a (fun he => ev_getI rfl (gr_ob (n := 12) hG39 rfl) he) ?_
        refine ev_a (fun he => ev_push rfl he) ?_
        refine ev_a (fun he => ev_bin (z := (aI σ36 1 4) + 1) rfl rfl he) ?_
        obtain ⟨σ41, e42, h⟩ := lt_inv h
        have hG43 : Gr σ41 := gr_wi e42 hG39
        refine ev_a (fun he => ev_putI rfl (gr_ob (n := 12) hG39 rfl) e42 he) ?_
        refine ev_a (fun he => ev_goto rfl he) ?_
        exact hk0 (d1) σ41 q h hG43
def F_X8_nextToken (N : Nat) (σ : aSt) : Option (Int32 × aSt) := H_X8_nextToken_0 N N σ
set_option maxRecDepth 20000 in
set_option maxHeartbeats 4000000 in
theorem T_X8_nextToken (xs : Nat → Int32) (L : Nat) (N : Nat) (σ : aSt) (q : Int32 × aSt) (h : F_X8_nextToken N σ = some q) (hG : Gr σ) : Cal xs L 49 [.ref 1] σ (wI q.1) q.2 ∧ Gr q.2 := by
  have h : (H_X8_nextToken_0 N N σ) = some q := h
  show Ev xs L 49 0 [.ref 1, aU] [] σ (wI q.1) q.2 ∧ Gr q.2
  exact TH_X8_nextToken_0 xs L N N (aU) σ q h hG
