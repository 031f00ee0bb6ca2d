def F_X12_feed (N : Nat) (x1 : Int32) (x2 : Int32) (x3 : Int32) (x4 : Int32) (x5 : Int32) (σ : aSt) : Option (Int32 × aSt) := if ((aI σ 235 2) + 20) ≤ 2000 then oB (F_X12_put N x1 σ) fun y2 σ3 => oB (F_X12_put N x2 σ3) fun y7 σ8 => oB (F_X12_put N x3 σ8) fun y12 σ13 => oB (F_X12_put N x4 σ13) fun y17 σ18 => oB (F_X12_put N x5 σ18) fun y22 σ23 => some (aI σ23 235 2, σ23) else some ((-1), σ)
set_option maxRecDepth 20000 in
set_option maxHeartbeats 4000000 in
theorem T_X12_feed (xs : Nat → Int32) (L : Nat) (N : Nat) (x1 : Int32) (x2 : Int32) (x3 : Int32) (x4 : Int32) (x5 : Int32) (σ : aSt) (q : Int32 × aSt) (h : F_X12_feed N x1 x2 x3 x4 x5 σ = some q) (hG : Gr σ) : Cal xs L 118 [.ref 235, .int x1, .int x2, .int x3, .int x4, .int x5] σ (wI q.1) q.2 ∧ Gr q.2 := by
  have h : (if ((aI σ 235 2) + 20) ≤ 2000 then oB (F_X12_put N x1 σ) fun y2 σ3 => oB (F_X12_put N x2 σ3) fun y7 σ8 => oB (F_X12_put N x3 σ8) fun y12 σ13 => oB (F_X12_put N x4 σ13) fun y17 σ18 => oB (F_X12_put N x5 σ18) fun y22 σ23 => some (aI σ23 235 2, σ23) else some ((-1), σ)) = some q := h
  show Ev xs L 118 0 [.ref 235, .int x1, .int x2, .int x3, .int x4, .int x5] [] σ (wI q.1) q.2 ∧ Gr q.2
  refine ev_a (fun he => ev_aload rfl rfl he) ?_
  refine ev_a (fun he => ev_getI rfl (gr_ob (n := 80) hG rfl) he) ?_
  refine ev_a (fun he => ev_push rfl he) ?_
  refine ev_a (fun he => ev_bin (z := (aI σ 235 2) + 20) rfl rfl he) ?_
  refine ev_a (fun he => ev_push rfl he) ?_
  refine ev_b (c := ((aI σ 235 2) + 20) ≤ 2000) (fun ht hf => ev_cle rfl ht hf) (fun hc1 => ?_) (fun hc1 => ?_)
  · rw [if_pos hc1] at h
    refine ev_a (fun he => ev_aload rfl rfl he) ?_
    refine ev_a (fun he => ev_iload rfl rfl he) ?_
    obtain ⟨y2, σ3, h4, h⟩ := oB_inv h
    obtain ⟨c5, hG6⟩ := T_X12_put xs L N x1 σ (y2, σ3) h4 hG
    refine ev_a (fun he => ev_callV (as := [.int x1]) rfl (gr_ob (n := 80) hG rfl) rfl rfl rfl (Nat.le_of_ble_eq_true rfl) (Nat.le_of_ble_eq_true rfl) c5 he) ?_
    refine ev_a (fun he => ev_aload rfl rfl he) ?_
    refine ev_a (fun he => ev_iload rfl rfl he) ?_
    obtain ⟨y7, σ8, h9, h⟩ := oB_inv h
    obtain ⟨c10, hG11⟩ := T_X12_put xs L N x2 σ3 (y7, σ8) h9 hG6
    refine ev_a (fun he => ev_callV (as := [.int x2]) rfl (gr_ob (n := 80) hG6 rfl) rfl rfl rfl (Nat.le_of_ble_eq_true rfl) (Nat.le_of_ble_eq_true rfl) c10 he) ?_
    refine ev_a (fun he => ev_aload rfl rfl he) ?_
    refine ev_a (fun he => ev_iload rfl rfl he) ?_
    obtain ⟨y12, σ13, h14, h⟩ := oB_inv h
    obtain ⟨c15, hG16⟩ := T_X12_put xs L N x3 σ8 (y12, σ13) h14 hG11
    refine ev_a (fun he => ev_callV (as := [.int x3]) rfl (gr_ob (n := 80) hG11 rfl) rfl rfl rfl (Nat.le_of_ble_eq_true rfl) (Nat.le_of_ble_eq_true rfl) c15 he) ?_
    refine ev_a (fun he => ev_aload rfl rfl he) ?_
    refine ev_a (fun he => ev_iload rfl rfl he) ?_
    obtain ⟨y17, σ18, h19, h⟩ := oB_inv h
    obtain ⟨c20, hG21⟩ := T_X12_put xs L N x4 σ13 (y17, σ18) h19 hG16
    refine ev_a (fun he => ev_callV (as := [.int x4]) rfl (gr_ob (n := 80) hG16 rfl) rfl rfl rfl (Nat.le_of_ble_eq_true rfl) (Nat.le_of_ble_eq_true rfl) c20 he) ?_
    refine ev_a (fun he => ev_aload rfl rfl he) ?_
    refine ev_a (fun he => ev_iload rfl rfl he) ?_
    obtain ⟨y22, σ23, h24, h⟩ := oB_inv h
    obtain ⟨c25, hG26⟩ := T_X12_put xs L N x5 σ18 (y22, σ23) h24 hG21
    refine ev_a (fun he => ev_callV (as := [.int x5]) rfl (gr_ob (n := 80) hG21 rfl) rfl rfl rfl (Nat.le_of_ble_eq_true rfl) (Nat.le_of_ble_eq_true rfl) c25 he) ?_
    refine ev_a (fun he => ev_aload rfl rfl he) ?_
    refine ev_a (fun he => ev_getI rfl (gr_ob (n := 80) hG26 rfl) he) ?_
    cases h
    exact ⟨ev_retI rfl, hG26⟩
  · rw [if_neg hc1] at h
    refine ev_a (fun he => ev_push rfl he) ?_
    cases h
    exact ⟨ev_retI rfl, hG⟩
def J_X12_back_12 (N : Nat) (σ : aSt) : Option (Int32 × aSt) := some ((-1), σ)
set_option maxRecDepth 20000 in
set_option maxHeartbeats 4000000 in
theorem TJ_X12_back_12 (xs : Nat → Int32) (L : Nat) (N : Nat) (d0 : Value) (d1 : Value) (σ : aSt) (q : Int32 × aSt) (h : J_X12_back_12 N  σ = some q) (hG : Gr σ) : Ev xs L 120 12 [d0, d1] [] σ (wI q.1) q.2 ∧ Gr q.2 := by
  have h : (some ((-1), σ)) = some q := h
  refine ev_a (fun he => ev_push rfl he) ?_
  cases h
  exact ⟨ev_retI rfl, hG⟩
def F_X12_back (N : Nat) (x1 : Int32) (σ : aSt) : Option (Int32 × aSt) := if x1 < 0 then J_X12_back_12 N σ else if x1 ≤ (aI σ 235 2) then lt (aWI σ 235 2 ((aI σ 235 2) - x1)) fun σ3 => some (aI σ3 235 2, σ3) else J_X12_back_12 N σ
set_option maxRecDepth 20000 in
set_option maxHeartbeats 4000000 in
theorem T_X12_back (xs : Nat → Int32) (L : Nat) (N : Nat) (x1 : Int32) (σ : aSt) (q : Int32 × aSt) (h : F_X12_back N x1 σ = some q) (hG : Gr σ) : Cal xs L 120 [.ref 235, .int x1] σ (wI q.1) q.2 ∧ Gr q.2 := by
  have h : (if x1 < 0 then J_X12_back_12 N σ else if x1 ≤ (aI σ 235 2) then lt (aWI σ 235 2 ((aI σ 235 2) - x1)) fun σ3 => some (aI σ3 235 2, σ3) else J_X12_back_12 N σ) = some q := h
  show Ev xs L 120 0 [.ref 235, .int x1] [] σ (wI q.1) q.2 ∧ Gr q.2
  refine ev_a (fun he => ev_iload rfl rfl he) ?_
  refine ev_b (c := x1 < 0) (fun ht hf => ev_iflt rfl ht hf) (fun hc1 => ?_) (fun hc1 => ?_)
  · rw [if_pos hc1] at h
    exact TJ_X12_back_12 xs L N (.ref 235) (.int x1) σ q h hG
  · rw [if_neg hc1] at h
    refine ev_a (fun he => ev_iload rfl rfl he) ?_
    refine ev_a (fun he => ev_aload rfl rfl he) ?_
    refine ev_a (fun he => ev_getI rfl (gr_ob (n := 80) hG rfl) he) ?_
    refine ev_b (c := x1 ≤ (aI σ 235 2)) (fun ht hf => ev_cle rfl ht hf) (fun hc2 => ?_) (fun hc2 => ?_)
    · rw [if_pos hc2] at h
      refine ev_a (fun he => ev_aload rfl rfl he) ?_
      refine ev_a (fun he => ev_dupR rfl he) ?_
      refine ev_a (fun he => ev_getI rfl (gr_ob (n := 80) hG rfl) he) ?_
      refine ev_a (fun he => ev_iload rfl rfl he) ?_
      refine ev_a (fun he => ev_bin (z := (aI σ 235 2) - x1) rfl rfl he) ?_
      obtain ⟨σ3, e4, h⟩ := lt_inv h
      have hG5 : Gr σ3 := gr_wi e4 hG
      refine ev_a (fun he => ev_putI rfl (gr_ob (n := 80) hG rfl) e4 he) ?_
      refine ev_a (fun he => ev_aload rfl rfl he) ?_
      refine ev_a (fun he => ev_getI rfl (gr_ob (n := 80) hG5 rfl) he) ?_
      cases h
      exact ⟨ev_retI rfl, hG5⟩
    · rw [if_neg hc2] at h
      exact TJ_X12_back_12 xs L N (.ref 235) (.int x1) σ q h hG
def J_X12_at_22 (N : Nat) (s0 : Int32) (σ : aSt) : Option (Int32 × aSt) := some (s0, σ)
set_option maxRecDepth 20000 in
set_option maxHeartbeats 4000000 in
theorem TJ_X12_at_22 (xs : Nat → Int32) (L : Nat) (N : Nat) (s0 : Int32) (d0 : Value) (d1 : Value) (σ : aSt) (q : Int32 × aSt) (h : J_X12_at_22 N s0 σ = some q) (hG : Gr σ) : Ev xs L 121 22 [d0, d1] [.int s0] σ (wI q.1) q.2 ∧ Gr q.2 := by
  have h : (some (s0, σ)) = some q := h
  cases h
  exact ⟨ev_retI rfl, hG⟩
def F_X12_at (N : Nat) (x1 : Int32) (σ : aSt) : Option (Int32 × aSt) := if (aI σ 235 4) ≤ x1 then J_X12_at_22 N 0 σ else cO (¬ (x1 < 0 ∨ 2000 ≤ x1.toNatClampNeg)) (J_X12_at_22 N ((aI σ 237 x1.toNatClampNeg) &&& 255) σ)
set_option maxRecDepth 20000 in
set_option maxHeartbeats 4000000 in
theorem T_X12_at (xs : Nat → Int32) (L : Nat) (N : Nat) (x1 : Int32) (σ : aSt) (q : Int32 × aSt) (h : F_X12_at N x1 σ = some q) (hG : Gr σ) : Cal xs L 121 [.ref 235, .int x1] σ (wI q.1) q.2 ∧ Gr q.2 := by
  have h : (if (aI σ 235 4) ≤ x1 then J_X12_at_22 N 0 σ else cO (¬ (x1 < 0 ∨ 2000 ≤ x1.toNatClampNeg)) (J_X12_at_22 N ((aI σ 237 x1.toNatClampNeg) &&& 255) σ)) = some q := h
  show Ev xs L 121 0 [.ref 235, .int x1] [] σ (wI q.1) q.2 ∧ Gr q.2
  refine ev_a (fun he => ev_iload rfl rfl he) ?_
  refine ev_a (fun he => ev_aload rfl rfl he) ?_
  refine ev_a (fun he => ev_getI rfl (gr_ob (n := 80) hG rfl) he) ?_
  refine ev_b (c := (aI σ 235 4) ≤ x1) (fun ht hf => ev_cge rfl ht hf) (fun hc1 => ?_) (fun hc1 => ?_)
  · rw [if_pos hc1] at h
    refine ev_a (fun he => ev_push rfl he) ?_
    exact TJ_X12_at_22 xs L N 0 (.ref 235) (.int x1) σ q h hG
  · rw [if_neg hc1] at h
    refine ev_a (fun he => ev_aload rfl rfl he) ?_
    refine ev_a (fun he => ev_getR rfl (gr_ob (n := 80) hG rfl) (gr_p (a := 235) (k := 3) (b := 237) hG rfl) he) ?_
    refine ev_a (fun he => ev_iload rfl rfl he) ?_
    obtain ⟨hc2, h⟩ := cO_inv h
    refine ev_a (fun he => ev_aldI (k := x1.toNatClampNeg) rfl (gr_ar hG rfl) hc2 rfl he) ?_
    refine ev_a (fun he => ev_push rfl he) ?_
    refine ev_a (fun he => ev_bin (z := (aI σ 237 x1.toNatClampNeg) &&& 255) rfl rfl he) ?_
    refine ev_a (fun he => ev_goto rfl he) ?_
    exact TJ_X12_at_22 xs L N ((aI σ 237 x1.toNatClampNeg) &&& 255) (.ref 235) (.int x1) σ q h hG
def J_X12_isDigit_17 (N : Nat) (s0 : Int32) (σ : aSt) : Option (Int32 × aSt) := cO (vp_nar .boolean s0 = s0) (some (s0, σ))
set_option maxRecDepth 20000 in
set_option maxHeartbeats 4000000 in
theorem TJ_X12_isDigit_17 (xs : Nat → Int32) (L : Nat) (N : Nat) (s0 : Int32) (d0 : Value) (σ : aSt) (q : Int32 × aSt) (h : J_X12_isDigit_17 N s0 σ = some q) (hG : Gr σ) : Ev xs L 122 17 [d0] [.int s0] σ (wI q.1) q.2 ∧ Gr q.2 := by
  have h : (cO (vp_nar .boolean s0 = s0) (some (s0, σ))) = some q := h
  obtain ⟨hc1, h⟩ := cO_inv h
  cases h
  exact ⟨ev_retZ rfl hc1, hG⟩
def J_X12_isDigit_16 (N : Nat) (σ : aSt) : Option (Int32 × aSt) := J_X12_isDigit_17 N 0 σ
set_option maxRecDepth 20000 in
set_option maxHeartbeats 4000000 in
theorem TJ_X12_isDigit_16 (xs : Nat → Int32) (L : Nat) (N : Nat) (d0 : Value) (σ : aSt) (q : Int32 × aSt) (h : J_X12_isDigit_16 N  σ = some q) (hG : Gr σ) : Ev xs L 122 16 [d0] [] σ (wI q.1) q.2 ∧ Gr q.2 := by
  have h : (J_X12_isDigit_17 N 0 σ) = some q := h
  refine ev_a (fun he => ev_push rfl he) ?_
  exact TJ_X12_isDigit_17 xs L N 0 (d0) σ q h hG
def F_X12_isDigit (N : Nat) (x0 : Int32) (σ : aSt) : Option (Int32 × aSt) := if x0 < 48 then J_X12_isDigit_16 N σ else if 57 < x0 then J_X12_isDigit_16 N σ else J_X12_isDigit_17 N 1 σ
set_option maxRecDepth 20000 in
set_option maxHeartbeats 4000000 in
theorem T_X12_isDigit (xs : Nat → Int32) (L : Nat) (N : Nat) (x0 : Int32) (σ : aSt) (q : Int32 × aSt) (h : F_X12_isDigit N x0 σ = some q) (hG : Gr σ) : Cal xs L 122 [.int x0] σ (wI q.1) q.2 ∧ Gr q.2 := by
  have h : (if x0 < 48 then J_X12_isDigit_16 N σ else if 57 < x0 then J_X12_isDigit_16 N σ else J_X12_isDigit_17 N 1 σ) = some q := h
  show Ev xs L 122 0 [.int x0] [] σ (wI q.1) q.2 ∧ Gr q.2
  refine ev_a (fun he => ev_iload rfl rfl he) ?_
  refine ev_a (fun he => ev_push rfl he) ?_
  refine ev_b (c := x0 < 48) (fun ht hf => ev_clt rfl ht hf) (fun hc2 => ?_) (fun hc2 => ?_)
  · rw [if_pos hc2] at h
    exact TJ_X12_isDigit_16 xs L N (.int x0) σ q h hG
  · rw [if_neg hc2] at h
    refine ev_a (fun he => ev_iload rfl rfl he) ?_
    refine ev_a (fun he => ev_push rfl he) ?_
    refine ev_b (c := 57 < x0) (fun ht hf => ev_cgt rfl ht hf) (fun hc3 => ?_) (fun hc3 => ?_)
    · rw [if_pos hc3] at h
      exact TJ_X12_isDigit_16 xs L N (.int x0) σ q h hG
    · rw [if_neg hc3] at h
      refine ev_a (fun he => ev_push rfl he) ?_
      refine ev_a (fun he => ev_goto rfl he) ?_
      exact TJ_X12_isDigit_17 xs L N 1 (.int x0) σ q h hG
def J_X12_isLetter_17 (N : Nat) (s0 : Int32) (σ : aSt) : Option (Int32 × aSt) := cO (vp_nar .boolean s0 = s0) (some (s0, σ))
set_option maxRecDepth 20000 in
set_option maxHeartbeats 4000000 in
theorem TJ_X12_isLetter_17 (xs : Nat → Int32) (L : Nat) (N : Nat) (s0 : Int32) (d0 : Value) (σ : aSt) (q : Int32 × aSt) (h : J_X12_isLetter_17 N s0 σ = some q) (hG : Gr σ) : Ev xs L 123 17 [d0] [.int s0] σ (wI q.1) q.2 ∧ Gr q.2 := by
  have h : (cO (vp_nar .boolean s0 = s0) (some (s0, σ))) = some q := h
  obtain ⟨hc1, h⟩ := cO_inv h
  cases h
  exact ⟨ev_retZ rfl hc1, hG⟩
def J_X12_isLetter_16 (N : Nat) (σ : aSt) : Option (Int32 × aSt) := J_X12_isLetter_17 N 0 σ
set_option maxRecDepth 20000 in
set_option maxHeartbeats 4000000 in
theorem TJ_X12_isLetter_16 (xs : Nat → Int32) (L : Nat) (N : Nat) (d0 : Value) (σ : aSt) (q : Int32 × aSt) (h : J_X12_isLetter_16 N  σ = some q) (hG : Gr σ) : Ev xs L 123 16 [d0] [] σ (wI q.1) q.2 ∧ Gr q.2 := by
  have h : (J_X12_isLetter_17 N 0 σ) = some q := h
  refine ev_a (fun he => ev_push rfl he) ?_
  exact TJ_X12_isLetter_17 xs L N 0 (d0) σ q h hG
def F_X12_isLetter (N : Nat) (x0 : Int32) (σ : aSt) : Option (Int32 × aSt) := if x0 < 97 then J_X12_isLetter_16 N σ else if 122 < x0 then J_X12_isLetter_16 N σ else J_X12_isLetter_17 N 1 σ
set_option maxRecDepth 20000 in
set_option maxHeartbeats 4000000 in
theorem T_X12_isLetter (xs : Nat → Int32) (L : Nat) (N : Nat) (x0 : Int32) (σ : aSt) (q : Int32 × aSt) (h : F_X12_isLetter N x0 σ = some q) (hG : Gr σ) : Cal xs L 123 [.int x0] σ (wI q.1) q.2 ∧ Gr q.2 := by
  have h : (if x0 < 97 then J_X12_isLetter_16 N σ else if 122 < x0 then J_X12_isLetter_16 N σ else J_X12_isLetter_17 N 1 σ) = some q := h
  show Ev xs L 123 0 [.int x0] [] σ (wI q.1) q.2 ∧ Gr q.2
  refine ev_a (fun he => ev_iload rfl rfl he) ?_
  refine ev_a (fun he => ev_push rfl he) ?_
  refine ev_b (c := x0 < 97) (fun ht hf => ev_clt rfl ht hf) (fun hc2 => ?_) (fun hc2 => ?_)
  · rw [if_pos hc2] at h
    exact TJ_X12_isLetter_16 xs L N (.int x0) σ q h hG
  · rw [if_neg hc2] at h
    refine ev_a (fun he => ev_iload rfl rfl he) ?_
    refine ev_a (fun he => ev_push rfl he) ?_
    refine ev_b (c := 122 < x0) (fun ht hf => ev_cgt rfl ht hf) (fun hc3 => ?_) (fun hc3 => ?_)
    · rw [if_pos hc3] at h
      exact TJ_X12_isLetter_16 xs L N (.int x0) σ q h hG
    · rw [if_neg hc3] at h
      refine ev_a (fun he => ev_push rfl he) ?_
      refine ev_a (fun he => ev_goto rfl he) ?_
      exact TJ_X12_isLetter_17 xs L N 1 (.int x0) σ q h hG
def J_X12_more_21 (N : Nat) (s0 : Int64) (σ : aSt) : Option (Int64 × aSt) := some (s0, σ)
set_option maxRecDepth 20000 in
set_option maxHeartbeats 4000000 in
theorem TJ_X12_more_21 (xs : Nat → Int32) (L : Nat) (N : Nat) (s0 : Int64) (d0 : Value) (d1 : Value) (d2 : Value) (σ : aSt) (q : Int64 × aSt) (h : J_X12_more_21 N s0 σ = some q) (hG : Gr σ) : Ev xs L 124 21 [d0, d1, d2] [.long s0] σ (wJ q.1) q.2 ∧ Gr q.2 := by
  have h : (some (s0, σ)) = some q := h
  cases h
  exact ⟨ev_retL rfl, hG⟩
def F_X12_more (N : Nat) (x0 : Int64) (x2 : Int32) (σ : aSt) : Option (Int64 × aSt) := if x2 ≠ 0 then J_X12_more_21 N ((27 * x0) + (((x2 - 97) + 1).toInt64)) σ else J_X12_more_21 N x0 σ
set_option maxRecDepth 20000 in
set_option maxHeartbeats 4000000 in
theorem T_X12_more (xs : Nat → Int32) (L : Nat) (N : Nat) (x0 : Int64) (x2 : Int32) (σ : aSt) (q : Int64 × aSt) (h : F_X12_more N x0 x2 σ = some q) (hG : Gr σ) : Cal xs L 124 [.long x0, .int x2] σ (wJ q.1) q.2 ∧ Gr q.2 := by
  have h : (if x2 ≠ 0 then J_X12_more_21 N ((27 * x0) + (((x2 - 97) + 1).toInt64)) σ else J_X12_more_21 N x0 σ) = some q := h
  show Ev xs L 124 0 [.long x0, aU, .int x2] [] σ (wJ q.1) q.2 ∧ Gr q.2
  refine ev_a (fun he => ev_iload rfl rfl he) ?_
  refine ev_b (c := x2 ≠ 0) (fun ht hf => ev_ifne rfl ht hf) (fun hc1 => ?_) (fun hc1 => ?_)
  · rw [if_pos hc1] at h
    refine ev_a (fun he => ev_push rfl he) ?_
    refine ev_a (fun he => ev_lload rfl rfl he) ?_
    refine ev_a (fun he => ev_binL (z := 27 * x0) rfl rfl he) ?_
    refine ev_a (fun he => ev_iload rfl rfl he) ?_
    refine ev_a (fun he => ev_push rfl he) ?_
    refine ev_a (fun he => ev_bin (z := x2 - 97) rfl rfl he) ?_
    refine ev_a (fun he => ev_push rfl he) ?_
    refine ev_a (fun he => ev_bin (z := (x2 - 97) + 1) rfl rfl he) ?_
    refine ev_a (fun he => ev_i2l rfl he) ?_
    refine ev_a (fun he => ev_binL (z := (27 * x0) + (((x2 - 97) + 1).toInt64)) rfl rfl he) ?_
    exact TJ_X12_more_21 xs L N ((27 * x0) + (((x2 - 97) + 1).toInt64)) (.long x0) (aU) (.int x2) σ q h hG
  · rw [if_neg hc1] at h
    refine ev_a (fun he => ev_lload rfl rfl he) ?_
    refine ev_a (fun he => ev_goto rfl he) ?_
    exact TJ_X12_more_21 xs L N x0 (.long x0) (aU) (.int x2) σ q h hG
def F_X12_word (N : Nat) (x0 : Int32) (x1 : Int32) (x2 : Int32) (x3 : Int32) (x4 : Int32) (x5 : Int32) (x6 : Int32) (σ : aSt) : Option (Int64 × aSt) := oB (F_X12_more N 0 x0 σ) fun y1 σ2 => oB (F_X12_more N y1 x1 σ2) fun y6 σ7 => oB (F_X12_more N y6 x2 σ7) fun y11 σ12 => oB (F_X12_more N y11 x3 σ12) fun y16 σ17 => oB (F_X12_more N y16 x4 σ17) fun y21 σ22 => oB (F_X12_more N y21 x5 σ22) fun y26 σ27 => oB (F_X12_more N y26 x6 σ27) fun y31 σ32 => some (y31, σ32)
set_option maxRecDepth 20000 in
set_option maxHeartbeats 4000000 in
theorem T_X12_word (xs : Nat → Int32) (L : Nat) (N : Nat) (x0 : Int32) (x1 : Int32) (x2 : Int32) (x3 : Int32) (x4 : Int32) (x5 : Int32) (x6 : Int32) (σ : aSt) (q : Int64 × aSt) (h : F_X12_word N x0 x1 x2 x3 x4 x5 x6 σ = some q) (hG : Gr σ) : Cal xs L 125 [.int x0, .int x1, .int x2, .int x3, .int x4, .int x5, .int x6] σ (wJ q.1) q.2 ∧ Gr q.2 := by
  have h : (oB (F_X12_more N 0 x0 σ) fun y1 σ2 => oB (F_X12_more N y1 x1 σ2) fun y6 σ7 => oB (F_X12_more N y6 x2 σ7) fun y11 σ12 => oB (F_X12_more N y11 x3 σ12) fun y16 σ17 => oB (F_X12_more N y16 x4 σ17) fun y21 σ22 => oB (F_X12_more N y21 x5 σ22) fun y26 σ27 => oB (F_X12_more N y26 x6 σ27) fun y31 σ32 => some (y31, σ32)) = some q := h
  show Ev xs L 125 0 [.int x0, .int x1, .int x2, .int x3, .int x4, .int x5, .int x6] [] σ (wJ q.1) q.2 ∧ Gr q.2
  refine ev_a (fun he => ev_push rfl he) ?_
  refine ev_a (fun he => ev_iload rfl rfl he) ?_
  obtain ⟨y1, σ2, h3, h⟩ := oB_inv h
  obtain ⟨c4, hG5⟩ := T_X12_more xs L N 0 x0 σ (y1, σ2) h3 hG
  refine ev_a (fun he => ev_callS (as := [.long 0, .int x0]) rfl rfl rfl rfl (Nat.le_of_ble_eq_true rfl) (Nat.le_of_ble_eq_true rfl) c4 he) ?_
  refine ev_a (fun he => ev_iload rfl rfl he) ?_
  obtain ⟨y6, σ7, h8, h⟩ := oB_inv h
  obtain ⟨c9, hG10⟩ := T_X12_more xs L N y1 x1 σ2 (y6, σ7) h8 hG5
  refine ev_a (fun he => ev_callS (as := [.long y1, .int x1]) rfl rfl rfl rfl (Nat.le_of_ble_eq_true rfl) (Nat.le_of_ble_eq_true rfl) c9 he) ?_
  refine ev_a (fun he => ev_iload rfl rfl he) ?_
  obtain ⟨y11, σ12, h13, h⟩ := oB_inv h
  obtain ⟨c14, hG15⟩ := T_X12_more xs L N y6 x2 σ7 (y11, σ12) h13 hG10
  refine ev_a (fun he => ev_callS (as := [.long y6, .int x2]) rfl rfl rfl rfl (Nat.le_of_ble_eq_true rfl) (Nat.le_of_ble_eq_true rfl) c14 he) ?_
  refine ev_a (fun he => ev_iload rfl rfl he) ?_
  obtain ⟨y16, σ17, h18, h⟩ := oB_inv h
  obtain ⟨c19, hG20⟩ := T_X12_more xs L N y11 x3 σ12 (y16, σ17) h18 hG15
  refine ev_a (fun he => ev_callS (as := [.long y11, .int x3]) rfl rfl rfl rfl (Nat.le_of_ble_eq_true rfl) (Nat.le_of_ble_eq_true rfl) c19 he) ?_
  refine ev_a (fun he => ev_iload rfl rfl he) ?_
  obtain ⟨y21, σ22, h23, h⟩ := oB_inv h
  obtain ⟨c24, hG25⟩ := T_X12_more xs L N y16 x4 σ17 (y21, σ22) h23 hG20
  refine ev_a (fun he => ev_callS (as := [.long y16, .int x4]) rfl rfl rfl rfl (Nat.le_of_ble_eq_true rfl) (Nat.le_of_ble_eq_true rfl) c24 he) ?_
  refine ev_a (fun he => ev_iload rfl rfl he) ?_
  obtain ⟨y26, σ27, h28, h⟩ := oB_inv h
  obtain ⟨c29, hG30⟩ := T_X12_more xs L N y21 x5 σ22 (y26, σ27) h28 hG25
  refine ev_a (fun he => ev_callS (as := [.long y21, .int x5]) rfl rfl rfl rfl (Nat.le_of_ble_eq_true rfl) (Nat.le_of_ble_eq_true rfl) c29 he) ?_
  refine ev_a (fun he => ev_iload rfl rfl he) ?_
  obtain ⟨y31, σ32, h33, h⟩ := oB_inv h
  obtain ⟨c34, hG35⟩ := T_X12_more xs L N y26 x6 σ27 (y31, σ32) h33 hG30
  refine ev_a (fun he => ev_callS (as := [.long y26, .int x6]) rfl rfl rfl rfl (Nat.le_of_ble_eq_true rfl) (Nat.le_of_ble_eq_true rfl) c34 he) ?_
  cases h
  exact ⟨ev_retL rfl, hG35⟩
def F_X12_token (N : Nat) (x1 : Int32) (x2 : Int32) (x3 : Int32) (x4 : Int64) (σ : aSt) : Option (Unit × aSt) := cO (¬ ((aI σ 235 10) < 0 ∨ 403 ≤ (aI σ 235 10).toNatClampNeg)) (lt (aWI σ 238 (aI σ 235 10).toNatClampNeg x1) fun σ2 => cO (¬ ((aI σ2 235 10) < 0 ∨ 403 ≤ (aI σ2 235 10).toNatClampNeg)) (lt (aWI σ2 239 (aI σ2 235 10).toNatClampNeg x2) fun σ6 => cO (¬ ((aI σ6 235 10) < 0 ∨ 403 ≤ (aI σ6 235 10).toNatClampNeg)) (lt (aWI σ6 240 (aI σ6 235 10).toNatClampNeg x3) fun σ10 => cO (¬ ((aI σ10 235 10) < 0 ∨ 403 ≤ (aI σ10 235 10).toNatClampNeg)) (lt (aWJ σ10 241 (aI σ10 235 10).toNatClampNeg x4) fun σ14 => lt (aWI σ14 235 10 ((aI σ14 235 10) + 1)) fun σ17 => some ((), σ17)))))
set_option maxRecDepth 20000 in
set_option maxHeartbeats 4000000 in
theorem T_X12_token (xs : Nat → Int32) (L : Nat) (N : Nat) (x1 : Int32) (x2 : Int32) (x3 : Int32) (x4 : Int64) (σ : aSt) (q : Unit × aSt) (h : F_X12_token N x1 x2 x3 x4 σ = some q) (hG : Gr σ) : Cal xs L 126 [.ref 235, .int x1, .int x2, .int x3, .long x4] σ (wV q.1) q.2 ∧ Gr q.2 := by
  have h : (cO (¬ ((aI σ 235 10) < 0 ∨ 403 ≤ (aI σ 235 10).toNatClampNeg)) (lt (aWI σ 238 (aI σ 235 10).toNatClampNeg x1) fun σ2 => cO (¬ ((aI σ2 235 10) < 0 ∨ 403 ≤ (aI σ2 235 10).toNatClampNeg)) (lt (aWI σ2 239 (aI σ2 235 10).toNatClampNeg x2) fun σ6 => cO (¬ ((aI σ6 235 10) < 0 ∨ 403 ≤ (aI σ6 235 10).toNatClampNeg)) (lt (aWI σ6 240 (aI σ6 235 10).toNatClampNeg x3) fun σ10 => cO (¬ ((aI σ10 235 10) < 0 ∨ 403 ≤ (aI σ10 235 10).toNatClampNeg)) (lt (aWJ σ10 241 (aI σ10 235 10).toNatClampNeg x4) fun σ14 => lt (aWI σ14 235 10 ((aI σ14 235 10) + 1)) fun σ17 => some ((), σ17)))))) = some q := h
  show Ev xs L 126 0 [.ref 235, .int x1, .int x2, .int x3, .long x4, aU] [] σ (wV q.1) q.2 ∧ Gr q.2
  refine ev_a (fun he => ev_aload rfl rfl he) ?_
  refine ev_a (fun he => ev_getR rfl (gr_ob (n := 80) hG rfl) (gr_p (a := 235) (k := 5) (b := 238) hG rfl) he) ?_
  refine ev_a (fun he => ev_aload rfl rfl he) ?_
  refine ev_a (fun he => ev_getI rfl (gr_ob (n := 80) hG rfl) he) ?_
  refine ev_a (fun he => ev_iload rfl rfl he) ?_
  obtain ⟨hc1, h⟩ := cO_inv h
  obtain ⟨σ2, e3, h⟩ := lt_inv h
  have hG4 : Gr σ2 := gr_wi e3 hG
  refine ev_a (fun he => ev_astI (k := (aI σ 235 10).toNatClampNeg) rfl (gr_ar hG rfl) hc1 rfl rfl e3 he) ?_
  refine ev_a (fun he => ev_aload rfl rfl he) ?_
  refine ev_a (fun he => ev_getR rfl (gr_ob (n := 80) hG4 rfl) (gr_p (a := 235) (k := 6) (b := 239) hG4 rfl) he) ?_
  refine ev_a (fun he => ev_aload rfl rfl he) ?_
  refine ev_a (fun he => ev_getI rfl (gr_ob (n := 80) hG4 rfl) he) ?_
  refine ev_a (fun he => ev_iload rfl rfl he) ?_
  obtain ⟨hc5, h⟩ := cO_inv h
  obtain ⟨σ6, e7, h⟩ := lt_inv h
  have hG8 : Gr σ6 := gr_wi e7 hG4
  refine ev_a (fun he => ev_astI (k := (aI σ2 235 10).toNatClampNeg) rfl (gr_ar hG4 rfl) hc5 rfl rfl e7 he) ?_
  refine ev_a (fun he => ev_aload rfl rfl he) ?_
  refine ev_a (fun he => ev_getR rfl (gr_ob (n := 80) hG8 rfl) (gr_p (a := 235) (k := 7) (b := 240) hG8 rfl) he) ?_
  refine ev_a (fun he => ev_aload rfl rfl he) ?_
  refine ev_a (fun he => ev_getI rfl (gr_ob (n := 80) hG8 rfl) he) ?_
  refine ev_a (fun he => ev_iload rfl rfl he) ?_
  obtain ⟨hc9, h⟩ := cO_inv h
  obtain ⟨σ10, e11, h⟩ := lt_inv h
  have hG12 : Gr σ10 := gr_wi e11 hG8
  refine ev_a (fun he => ev_astI (k := (aI σ6 235 10).toNatClampNeg) rfl (gr_ar hG8 rfl) hc9 rfl rfl e11 he) ?_
  refine ev_a (fun he => ev_aload rfl rfl he) ?_
  refine ev_a (fun he => ev_getR rfl (gr_ob (n := 80) hG12 rfl) (gr_p (a := 235) (k := 8) (b := 241) hG12 rfl) he) ?_
  refine ev_a (fun he => ev_aload rfl rfl he) ?_
  refine ev_a (fun he => ev_getI rfl (gr_ob (n := 80) hG12 rfl) he) ?_
  refine ev_a (fun he => ev_lload rfl rfl he) ?_
  obtain ⟨hc13, h⟩ := cO_inv h
  obtain ⟨σ14, e15, h⟩ := lt_inv h
  have hG16 : Gr σ14 := gr_wj e15 hG12
  refine ev_a (fun he => ev_astJ (k := (aI σ10 235 10).toNatClampNeg) rfl (gr_ar hG12 rfl) hc13 rfl e15 he) ?_
  refine ev_a (fun he => ev_aload rfl rfl he) ?_
  refine ev_a (fun he => ev_dupR rfl he) ?_
  refine ev_a (fun he => ev_getI rfl (gr_ob (n := 80) hG16 rfl) he) ?_
  refine ev_a (fun he => ev_push rfl he) ?_
  refine ev_a (fun he => ev_bin (z := (aI σ14 235 10) + 1) rfl rfl he) ?_
  obtain ⟨σ17, e18, h⟩ := lt_inv h
  have hG19 : Gr σ17 := gr_wi e18 hG16
  refine ev_a (fun he => ev_putI rfl (gr_ob (n := 80) hG16 rfl) e18 he) ?_
  cases h
  exact ⟨ev_retV rfl, hG19⟩
def J_X12_sign_167 (N : Nat) (s0 : Int32) (σ : aSt) : Option (Int32 × aSt) := some (s0, σ)
set_option maxRecDepth 20000 in
set_option maxHeartbeats 4000000 in
theorem TJ_X12_sign_167 (xs : Nat → Int32) (L : Nat) (N : Nat) (s0 : Int32) (d0 : Value) (d1 : Value) (d2 : Value) (d3 : Value) (d4 : Value) (d5 : Value) (σ : aSt) (q : Int32 × aSt) (h : J_X12_sign_167 N s0 σ = some q) (hG : Gr σ) : Ev xs L 128 167 [d0, d1, d2, d3, d4, d5] [.int s0] σ (wI q.1) q.2 ∧ Gr q.2 := by
  have h : (some (s0, σ)) = some q := h
  cases h
  exact ⟨ev_retI rfl, hG⟩
def J_X12_sign_148 (N : Nat) (x1 : Int32) (x4 : Int32) (x5 : Int32) (σ : aSt) : Option (Int32 × aSt) := oB (F_X12_token N x5 x1 0 0 σ) fun y1 σ2 => if x4 ≤ 0 then J_X12_sign_167 N 1 σ2 else J_X12_sign_167 N 2 σ2
set_option maxRecDepth 20000 in
set_option maxHeartbeats 4000000 in
theorem TJ_X12_sign_148 (xs : Nat → Int32) (L : Nat) (N : Nat) (x1 : Int32) (x4 : Int32) (x5 : Int32) (d2 : Value) (d3 : Value) (σ : aSt) (q : Int32 × aSt) (h : J_X12_sign_148 N x1 x4 x5 σ = some q) (hG : Gr σ) : Ev xs L 128 148 [.ref 235, .int x1, d2, d3, .int x4, .int x5] [] σ (wI q.1) q.2 ∧ Gr q.2 := by
  have h : (oB (F_X12_token N x5 x1 0 0 σ) fun y1 σ2 => if x4 ≤ 0 then J_X12_sign_167 N 1 σ2 else J_X12_sign_167 N 2 σ2) = some q := h
  refine ev_a (fun he => ev_aload rfl rfl he) ?_
  refine ev_a (fun he => ev_iload rfl rfl he) ?_
  refine ev_a (fun he => ev_iload rfl rfl he) ?_
  refine ev_a (fun he => ev_push rfl he) ?_
  refine ev_a (fun he => ev_push rfl he) ?_
  obtain ⟨y1, σ2, h3, h⟩ := oB_inv h
  obtain ⟨c4, hG5⟩ := T_X12_token xs L N x5 x1 0 0 σ (y1, σ2) h3 hG
  refine ev_a (fun he => ev_callV (as := [.int x5, .int x1, .int 0, .long 0]) rfl (gr_ob (n := 80) hG rfl) rfl rfl rfl (Nat.le_of_ble_eq_true rfl) (Nat.le_of_ble_eq_true rfl) c4 he) ?_
  refine ev_a (fun he => ev_iload rfl rfl he) ?_
  refine ev_b (c := x4 ≤ 0) (fun ht hf => ev_ifle rfl ht hf) (fun hc6 => ?_) (fun hc6 => ?_)
  · rw [if_pos hc6] at h
    refine ev_a (fun he => ev_push rfl he) ?_
    exact TJ_X12_sign_167 xs L N 1 (.ref 235) (.int x1) (d2) (d3) (.int x4) (.int x5) σ2 q h hG5
  · rw [if_neg hc6] at h
    refine ev_a (fun he => ev_push rfl he) ?_
    refine ev_a (fun he => ev_goto rfl he) ?_
    exact TJ_X12_sign_167 xs L N 2 (.ref 235) (.int x1) (d2) (d3) (.int x4) (.int x5) σ2 q h hG5
def J_X12_sign_44 (N : Nat) (x1 : Int32) (x2 : Int32) (s0 : Int32) (σ : aSt) : Option (Int32 × aSt) := if s0 ≤ 0 then if x2 ≠ 59 then if x2 ≠ 40 then if x2 ≠ 41 then if x2 ≠ 43 then if x2 ≠ 45 then if x2 ≠ 42 then if x2 ≠ 60 then J_X12_sign_148 N x1 s0 3 σ else J_X12_sign_148 N x1 s0 13 σ else J_X12_sign_148 N x1 s0 10 σ else J_X12_sign_148 N x1 s0 9 σ else J_X12_sign_148 N x1 s0 8 σ else J_X12_sign_148 N x1 s0 7 σ else J_X12_sign_148 N x1 s0 6 σ else J_X12_sign_148 N x1 s0 4 σ else J_X12_sign_148 N x1 s0 s0 σ
set_option maxRecDepth 20000 in
set_option maxHeartbeats 4000000 in
theorem TJ_X12_sign_44 (xs : Nat → Int32) (L : Nat) (N : Nat) (x1 : Int32) (x2 : Int32) (s0 : Int32) (d3 : Value) (d4 : Value) (d5 : Value) (σ : aSt) (q : Int32 × aSt) (h : J_X12_sign_44 N x1 x2 s0 σ = some q) (hG : Gr σ) : Ev xs L 128 44 [.ref 235, .int x1, .int x2, d3, d4, d5] [.int s0] σ (wI q.1) q.2 ∧ Gr q.2 := by
  have h : (if s0 ≤ 0 then if x2 ≠ 59 then if x2 ≠ 40 then if x2 ≠ 41 then if x2 ≠ 43 then if x2 ≠ 45 then if x2 ≠ 42 then if x2 ≠ 60 then J_X12_sign_148 N x1 s0 3 σ else J_X12_sign_148 N x1 s0 13 σ else J_X12_sign_148 N x1 s0 10 σ else J_X12_sign_148 N x1 s0 9 σ else J_X12_sign_148 N x1 s0 8 σ else J_X12_sign_148 N x1 s0 7 σ else J_X12_sign_148 N x1 s0 6 σ else J_X12_sign_148 N x1 s0 4 σ else J_X12_sign_148 N x1 s0 s0 σ) = some q := h
  refine ev_a (fun he => ev_istore (ls' := [.ref 235, .int x1, .int x2, (aKl d3), .int s0, d5]) rfl (Nat.le_of_ble_eq_true rfl) rfl he) ?_
  refine ev_a (fun he => ev_push rfl he) ?_
  refine ev_a (fun he => ev_istore (ls' := [.ref 235, .int x1, .int x2, (aKl d3), .int s0, .int 3]) rfl (Nat.le_of_ble_eq_true rfl) rfl he) ?_
  refine ev_a (fun he => ev_iload rfl rfl he) ?_
  refine ev_b (c := s0 ≤ 0) (fun ht hf => ev_ifle rfl ht hf) (fun hc7 => ?_) (fun hc7 => ?_)
  · rw [if_pos hc7] at h
    refine ev_a (fun he => ev_iload rfl rfl he) ?_
    refine ev_a (fun he => ev_push rfl he) ?_
    refine ev_b (c := x2 ≠ 59) (fun ht hf => ev_cne rfl ht hf) (fun hc8 => ?_) (fun hc8 => ?_)
    · rw [if_pos hc8] at h
      refine ev_a (fun he => ev_iload rfl rfl he) ?_
      refine ev_a (fun he => ev_push rfl he) ?_
      refine ev_b (c := x2 ≠ 40) (fun ht hf => ev_cne rfl ht hf) (fun hc9 => ?_) (fun hc9 => ?_)
      · rw [if_pos hc9] at h
        refine ev_a (fun he => ev_iload rfl rfl he) ?_
        refine ev_a (fun he => ev_push rfl he) ?_
        refine ev_b (c := x2 ≠ 41) (fun ht hf => ev_cne rfl ht hf) (fun hc10 => ?_) (fun hc10 => ?_)
        · rw [if_pos hc10] at h
          refine ev_a (fun he => ev_iload rfl rfl he) ?_
          refine ev_a (fun he => ev_push rfl he) ?_
          refine ev_b (c := x2 ≠ 43) (fun ht hf => ev_cne rfl ht hf) (fun hc11 => ?_) (fun hc11 => ?_)
          · rw [if_pos hc11] at h
            refine ev_a (fun he => ev_iload rfl rfl he) ?_
            refine ev_a (fun he => ev_push rfl he) ?_
            refine ev_b (c := x2 ≠ 45) (fun ht hf => ev_cne rfl ht hf) (fun hc12 => ?_) (fun hc12 => ?_)
            · rw [if_pos hc12] at h
              refine ev_a (fun he => ev_iload rfl rfl he) ?_
              refine ev_a (fun he => ev_push rfl he) ?_
              refine ev_b (c := x2 ≠ 42) (fun ht hf => ev_cne rfl ht hf) (fun hc13 => ?_) (fun hc13 => ?_)
              · rw [if_pos hc13] at h
                refine ev_a (fun he => ev_iload rfl rfl he) ?_
                refine ev_a (fun he => ev_push rfl he) ?_
                refine ev_b (c := x2 ≠ 60) (fun ht hf => ev_cne rfl ht hf) (fun hc14 => ?_) (fun hc14 => ?_)
                · rw [if_pos hc14] at h
                  exact TJ_X12_sign_148 xs L N x1 s0 3 (.int x2) ((aKl d3)) σ q h hG
                · rw [if_neg hc14] at h
                  refine ev_a (fun he => ev_push rfl he) ?_
                  refine ev_a (fun he => ev_istore (ls' := [.ref 235, .int x1, .int x2, (aKl d3), .int s0, .int 13]) rfl (Nat.le_of_ble_eq_true rfl) rfl he) ?_
                  exact TJ_X12_sign_148 xs L N x1 s0 13 (.int x2) ((aKl d3)) σ q h hG
              · rw [if_neg hc13] at h
                refine ev_a (fun he => ev_push rfl he) ?_
                refine ev_a (fun he => ev_istore (ls' := [.ref 235, .int x1, .int x2, (aKl d3), .int s0, .int 10]) rfl (Nat.le_of_ble_eq_true rfl) rfl he) ?_
                refine ev_a (fun he => ev_goto rfl he) ?_
                exact TJ_X12_sign_148 xs L N x1 s0 10 (.int x2) ((aKl d3)) σ q h hG
            · rw [if_neg hc12] at h
              refine ev_a (fun he => ev_push rfl he) ?_
              refine ev_a (fun he => ev_istore (ls' := [.ref 235, .int x1, .int x2, (aKl d3), .int s0, .int 9]) rfl (Nat.le_of_ble_eq_true rfl) rfl he) ?_
              refine ev_a (fun he => ev_goto rfl he) ?_
              exact TJ_X12_sign_148 xs L N x1 s0 9 (.int x2) ((aKl d3)) σ q h hG
          · rw [if_neg hc11] at h
            refine ev_a (fun he => ev_push rfl he) ?_
            refine ev_a (fun he => ev_istore (ls' := [.ref 235, .int x1, .int x2, (aKl d3), .int s0, .int 8]) rfl (Nat.le_of_ble_eq_true rfl) rfl he) ?_
            refine ev_a (fun he => ev_goto rfl he) ?_
            exact TJ_X12_sign_148 xs L N x1 s0 8 (.int x2) ((aKl d3)) σ q h hG
        · rw [if_neg hc10] at h
          refine ev_a (fun he => ev_push rfl he) ?_
          refine ev_a (fun he => ev_istore (ls' := [.ref 235, .int x1, .int x2, (aKl d3), .int s0, .int 7]) rfl (Nat.le_of_ble_eq_true rfl) rfl he) ?_
          refine ev_a (fun he => ev_goto rfl he) ?_
          exact TJ_X12_sign_148 xs L N x1 s0 7 (.int x2) ((aKl d3)) σ q h hG
      · rw [if_neg hc9] at h
        refine ev_a (fun he => ev_push rfl he) ?_
        refine ev_a (fun he => ev_istore (ls' := [.ref 235, .int x1, .int x2, (aKl d3), .int s0, .int 6]) rfl (Nat.le_of_ble_eq_true rfl) rfl he) ?_
        refine ev_a (fun he => ev_goto rfl he) ?_
        exact TJ_X12_sign_148 xs L N x1 s0 6 (.int x2) ((aKl d3)) σ q h hG
    · rw [if_neg hc8] at h
      refine ev_a (fun he => ev_push rfl he) ?_
      refine ev_a (fun he => ev_istore (ls' := [.ref 235, .int x1, .int x2, (aKl d3), .int s0, .int 4]) rfl (Nat.le_of_ble_eq_true rfl) rfl he) ?_
      refine ev_a (fun he => ev_goto rfl he) ?_
      exact TJ_X12_sign_148 xs L N x1 s0 4 (.int x2) ((aKl d3)) σ q h hG
  · rw [if_neg hc7] at h
    refine ev_a (fun he => ev_iload rfl rfl he) ?_
    refine ev_a (fun he => ev_istore (ls' := [.ref 235, .int x1, .int x2, (aKl d3), .int s0, .int s0]) rfl (Nat.le_of_ble_eq_true rfl) rfl he) ?_
    refine ev_a (fun he => ev_goto rfl he) ?_
    exact TJ_X12_sign_148 xs L N x1 s0 s0 (.int x2) ((aKl d3)) σ q h hG
def F_X12_sign (N : Nat) (x1 : Int32) (x2 : Int32) (x3 : Int32) (σ : aSt) : Option (Int32 × aSt) := if x3 = 61 then if x2 ≠ 61 then if x2 ≠ 33 then if x2 ≠ 60 then J_X12_sign_44 N x1 x2 0 σ else J_X12_sign_44 N x1 x2 14 σ else J_X12_sign_44 N x1 x2 12 σ else J_X12_sign_44 N x1 x2 11 σ else J_X12_sign_44 N x1 x2 0 σ
set_option maxRecDepth 20000 in
set_option maxHeartbeats 4000000 in
theorem T_X12_sign (xs : Nat → Int32) (L : Nat) (N : Nat) (x1 : Int32) (x2 : Int32) (x3 : Int32) (σ : aSt) (q : Int32 × aSt) (h : F_X12_sign N x1 x2 x3 σ = some q) (hG : Gr σ) : Cal xs L 128 [.ref 235, .int x1, .int x2, .int x3] σ (wI q.1) q.2 ∧ Gr q.2 := by
  have h : (if x3 = 61 then if x2 ≠ 61 then if x2 ≠ 33 then if x2 ≠ 60 then J_X12_sign_44 N x1 x2 0 σ else J_X12_sign_44 N x1 x2 14 σ else J_X12_sign_44 N x1 x2 12 σ else J_X12_sign_44 N x1 x2 11 σ else J_X12_sign_44 N x1 x2 0 σ) = some q := h
  show Ev xs L 128 0 [.ref 235, .int x1, .int x2, .int x3, aU, aU] [] σ (wI q.1) q.2 ∧ Gr q.2
  refine ev_a (fun he => ev_iload rfl rfl he) ?_
  refine ev_a (fun he => ev_push rfl he) ?_
  refine ev_b (c := x3 = 61) (fun ht hf => ev_ceq rfl ht hf) (fun hc15 => ?_) (fun hc15 => ?_)
  · rw [if_pos hc15] at h
    refine ev_a (fun he => ev_iload rfl rfl he) ?_
    refine ev_a (fun he => ev_push rfl he) ?_
    refine ev_b (c := x2 ≠ 61) (fun ht hf => ev_cne rfl ht hf) (fun hc16 => ?_) (fun hc16 => ?_)
    · rw [if_pos hc16] at h
      refine ev_a (fun he => ev_iload rfl rfl he) ?_
      refine ev_a (fun he => ev_push rfl he) ?_
      refine ev_b (c := x2 ≠ 33) (fun ht hf => ev_cne rfl ht hf) (fun hc17 => ?_) (fun hc17 => ?_)
      · rw [if_pos hc17] at h
        refine ev_a (fun he => ev_iload rfl rfl he) ?_
        refine ev_a (fun he => ev_push rfl he) ?_
        refine ev_b (c := x2 ≠ 60) (fun ht hf => ev_cne rfl ht hf) (fun hc18 => ?_) (fun hc18 => ?_)
        · rw [if_pos hc18] at h
          refine ev_a (fun he => ev_push rfl he) ?_
          exact TJ_X12_sign_44 xs L N x1 x2 0 (.int x3) (aU) (aU) σ q h hG
        · rw [if_neg hc18] at h
          refine ev_a (fun he => ev_push rfl he) ?_
          refine ev_a (fun he => ev_goto rfl he) ?_
          exact TJ_X12_sign_44 xs L N x1 x2 14 (.int x3) (aU) (aU) σ q h hG
      · rw [if_neg hc17] at h
        refine ev_a (fun he => ev_push rfl he) ?_
        refine ev_a (fun he => ev_goto rfl he) ?_
        exact TJ_X12_sign_44 xs L N x1 x2 12 (.int x3) (aU) (aU) σ q h hG
    · rw [if_neg hc16] at h
      refine ev_a (fun he => ev_push rfl he) ?_
      refine ev_a (fun he => ev_goto rfl he) ?_
      exact TJ_X12_sign_44 xs L N x1 x2 11 (.int x3) (aU) (aU) σ q h hG
  · rw [if_neg hc15] at h
    refine ev_a (fun he => ev_push rfl he) ?_
    refine ev_a (fun he => ev_goto rfl he) ?_
    exact TJ_X12_sign_44 xs L N x1 x2 0 (.int x3) (aU) (aU) σ q h hG
