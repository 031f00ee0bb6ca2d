def J_X10_isRelation_17 (N : Nat) (s0 : Int32) (σ : aSt) : Option (Int32 × aSt) := cO (vp_nar .boolean s0 = s0) (some (s0, σ))
set_option maxRecDepth 20000 in
set_option maxHeartbeats 4000000 in
theorem TJ_X10_isRelation_17 (xs : Nat → Int32) (L : Nat) (N : Nat) (s0 : Int32) (d0 : Value) (σ : aSt) (q : Int32 × aSt) (h : J_X10_isRelation_17 N s0 σ = some q) (hG : Gr σ) : Ev xs L 82 17 [d0] [.int s0] σ (wI q.1) q.2 ∧ Gr q.2 := by
  have h : (cO (vp_nar .boolean s0 = s0) (some (s0, σ))) = some q := h
  obtain ⟨hc1, h⟩ := cO_inv h
  cases h
  exact ⟨ev_retZ rfl hc1, hG⟩
def J_X10_isRelation_16 (N : Nat) (σ : aSt) : Option (Int32 × aSt) := J_X10_isRelation_17 N 0 σ
set_option maxRecDepth 20000 in
set_option maxHeartbeats 4000000 in
theorem TJ_X10_isRelation_16 (xs : Nat → Int32) (L : Nat) (N : Nat) (d0 : Value) (σ : aSt) (q : Int32 × aSt) (h : J_X10_isRelation_16 N  σ = some q) (hG : Gr σ) : Ev xs L 82 16 [d0] [] σ (wI q.1) q.2 ∧ Gr q.2 := by
  have h : (J_X10_isRelation_17 N 0 σ) = some q := h
  refine ev_a (fun he => ev_push rfl he) ?_
  exact TJ_X10_isRelation_17 xs L N 0 (d0) σ q h hG
def F_X10_isRelation (N : Nat) (x0 : Int32) (σ : aSt) : Option (Int32 × aSt) := if x0 < 20 then J_X10_isRelation_16 N σ else if 23 < x0 then J_X10_isRelation_16 N σ else J_X10_isRelation_17 N 1 σ
set_option maxRecDepth 20000 in
set_option maxHeartbeats 4000000 in
theorem T_X10_isRelation (xs : Nat → Int32) (L : Nat) (N : Nat) (x0 : Int32) (σ : aSt) (q : Int32 × aSt) (h : F_X10_isRelation N x0 σ = some q) (hG : Gr σ) : Cal xs L 82 [.int x0] σ (wI q.1) q.2 ∧ Gr q.2 := by
  have h : (if x0 < 20 then J_X10_isRelation_16 N σ else if 23 < x0 then J_X10_isRelation_16 N σ else J_X10_isRelation_17 N 1 σ) = some q := h
  show Ev xs L 82 0 [.int x0] [] σ (wI q.1) q.2 ∧ Gr q.2
  refine ev_a (fun he => ev_iload rfl rfl he) ?_
  refine ev_a (fun he => ev_push rfl he) ?_
  refine ev_b (c := x0 < 20) (fun ht hf => ev_clt rfl ht hf) (fun hc2 => ?_) (fun hc2 => ?_)
  · rw [if_pos hc2] at h
    exact TJ_X10_isRelation_16 xs L N (.int x0) σ q h hG
  · rw [if_neg hc2] at h
    refine ev_a (fun he => ev_iload rfl rfl he) ?_
    refine ev_a (fun he => ev_push rfl he) ?_
    refine ev_b (c := 23 < x0) (fun ht hf => ev_cgt rfl ht hf) (fun hc3 => ?_) (fun hc3 => ?_)
    · rw [if_pos hc3] at h
      exact TJ_X10_isRelation_16 xs L N (.int x0) σ q h hG
    · rw [if_neg hc3] at h
      refine ev_a (fun he => ev_push rfl he) ?_
      refine ev_a (fun he => ev_goto rfl he) ?_
      exact TJ_X10_isRelation_17 xs L N 1 (.int x0) σ q h hG
def J_X8_fits_78 (N : Nat) (σ : aSt) : Option (Int32 × aSt) := cO (vp_nar .boolean 1 = 1) (some (1, σ))
set_option maxRecDepth 20000 in
set_option maxHeartbeats 4000000 in
theorem TJ_X8_fits_78 (xs : Nat → Int32) (L : Nat) (N : Nat) (d0 : Value) (d1 : Value) (σ : aSt) (q : Int32 × aSt) (h : J_X8_fits_78 N  σ = some q) (hG : Gr σ) : Ev xs L 40 78 [d0, d1] [] σ (wI q.1) q.2 ∧ Gr q.2 := by
  have h : (cO (vp_nar .boolean 1 = 1) (some (1, σ))) = some q := h
  refine ev_a (fun he => ev_push rfl he) ?_
  obtain ⟨hc1, h⟩ := cO_inv h
  cases h
  exact ⟨ev_retZ rfl hc1, hG⟩
def J_X8_fits_158 (N : Nat) (s0 : Int32) (σ : aSt) : Option (Int32 × aSt) := cO (vp_nar .boolean s0 = s0) (some (s0, σ))
set_option maxRecDepth 20000 in
set_option maxHeartbeats 4000000 in
theorem TJ_X8_fits_158 (xs : Nat → Int32) (L : Nat) (N : Nat) (s0 : Int32) (d0 : Value) (d1 : Value) (σ : aSt) (q : Int32 × aSt) (h : J_X8_fits_158 N s0 σ = some q) (hG : Gr σ) : Ev xs L 40 158 [d0, d1] [.int s0] σ (wI q.1) q.2 ∧ Gr q.2 := by
  have h : (cO (vp_nar .boolean s0 = s0) (some (s0, σ))) = some q := h
  obtain ⟨hc2, h⟩ := cO_inv h
  cases h
  exact ⟨ev_retZ rfl hc2, hG⟩
def J_X8_fits_153 (N : Nat) (σ : aSt) : Option (Int32 × aSt) := J_X8_fits_158 N 1 σ
set_option maxRecDepth 20000 in
set_option maxHeartbeats 4000000 in
theorem TJ_X8_fits_153 (xs : Nat → Int32) (L : Nat) (N : Nat) (d0 : Value) (d1 : Value) (σ : aSt) (q : Int32 × aSt) (h : J_X8_fits_153 N  σ = some q) (hG : Gr σ) : Ev xs L 40 153 [d0, d1] [] σ (wI q.1) q.2 ∧ Gr q.2 := by
  have h : (J_X8_fits_158 N 1 σ) = some q := h
  refine ev_a (fun he => ev_push rfl he) ?_
  refine ev_a (fun he => ev_goto rfl he) ?_
  exact TJ_X8_fits_158 xs L N 1 (d0) (d1) σ q h hG
def J_X8_fits_141 (N : Nat) (s0 : Int32) (σ : aSt) : Option (Int32 × aSt) := cO (vp_nar .boolean s0 = s0) (some (s0, σ))
set_option maxRecDepth 20000 in
set_option maxHeartbeats 4000000 in
theorem TJ_X8_fits_141 (xs : Nat → Int32) (L : Nat) (N : Nat) (s0 : Int32) (d0 : Value) (d1 : Value) (σ : aSt) (q : Int32 × aSt) (h : J_X8_fits_141 N s0 σ = some q) (hG : Gr σ) : Ev xs L 40 141 [d0, d1] [.int s0] σ (wI q.1) q.2 ∧ Gr q.2 := by
  have h : (cO (vp_nar .boolean s0 = s0) (some (s0, σ))) = some q := h
  obtain ⟨hc3, h⟩ := cO_inv h
  cases h
  exact ⟨ev_retZ rfl hc3, hG⟩
def J_X8_fits_136 (N : Nat) (σ : aSt) : Option (Int32 × aSt) := J_X8_fits_141 N 1 σ
set_option maxRecDepth 20000 in
set_option maxHeartbeats 4000000 in
theorem TJ_X8_fits_136 (xs : Nat → Int32) (L : Nat) (N : Nat) (d0 : Value) (d1 : Value) (σ : aSt) (q : Int32 × aSt) (h : J_X8_fits_136 N  σ = some q) (hG : Gr σ) : Ev xs L 40 136 [d0, d1] [] σ (wI q.1) q.2 ∧ Gr q.2 := by
  have h : (J_X8_fits_141 N 1 σ) = some q := h
  refine ev_a (fun he => ev_push rfl he) ?_
  refine ev_a (fun he => ev_goto rfl he) ?_
  exact TJ_X8_fits_141 xs L N 1 (d0) (d1) σ q h hG
def J_X8_fits_98 (N : Nat) (s0 : Int32) (σ : aSt) : Option (Int32 × aSt) := cO (vp_nar .boolean s0 = s0) (some (s0, σ))
set_option maxRecDepth 20000 in
set_option maxHeartbeats 4000000 in
theorem TJ_X8_fits_98 (xs : Nat → Int32) (L : Nat) (N : Nat) (s0 : Int32) (d0 : Value) (d1 : Value) (σ : aSt) (q : Int32 × aSt) (h : J_X8_fits_98 N s0 σ = some q) (hG : Gr σ) : Ev xs L 40 98 [d0, d1] [.int s0] σ (wI q.1) q.2 ∧ Gr q.2 := by
  have h : (cO (vp_nar .boolean s0 = s0) (some (s0, σ))) = some q := h
  obtain ⟨hc4, h⟩ := cO_inv h
  cases h
  exact ⟨ev_retZ rfl hc4, hG⟩
def J_X8_fits_59 (N : Nat) (s0 : Int32) (σ : aSt) : Option (Int32 × aSt) := cO (vp_nar .boolean s0 = s0) (some (s0, σ))
set_option maxRecDepth 20000 in
set_option maxHeartbeats 4000000 in
theorem TJ_X8_fits_59 (xs : Nat → Int32) (L : Nat) (N : Nat) (s0 : Int32) (d0 : Value) (d1 : Value) (σ : aSt) (q : Int32 × aSt) (h : J_X8_fits_59 N s0 σ = some q) (hG : Gr σ) : Ev xs L 40 59 [d0, d1] [.int s0] σ (wI q.1) q.2 ∧ Gr q.2 := by
  have h : (cO (vp_nar .boolean s0 = s0) (some (s0, σ))) = some q := h
  obtain ⟨hc5, h⟩ := cO_inv h
  cases h
  exact ⟨ev_retZ rfl hc5, hG⟩
def J_X8_fits_54 (N : Nat) (σ : aSt) : Option (Int32 × aSt) := J_X8_fits_59 N 1 σ
set_option maxRecDepth 20000 in
set_option maxHeartbeats 4000000 in
theorem TJ_X8_fits_54 (xs : Nat → Int32) (L : Nat) (N : Nat) (d0 : Value) (d1 : Value) (σ : aSt) (q : Int32 × aSt) (h : J_X8_fits_54 N  σ = some q) (hG : Gr σ) : Ev xs L 40 54 [d0, d1] [] σ (wI q.1) q.2 ∧ Gr q.2 := by
  have h : (J_X8_fits_59 N 1 σ) = some q := h
  refine ev_a (fun he => ev_push rfl he) ?_
  refine ev_a (fun he => ev_goto rfl he) ?_
  exact TJ_X8_fits_59 xs L N 1 (d0) (d1) σ q h hG
def J_X8_fits_32 (N : Nat) (s0 : Int32) (σ : aSt) : Option (Int32 × aSt) := cO (vp_nar .boolean s0 = s0) (some (s0, σ))
set_option maxRecDepth 20000 in
set_option maxHeartbeats 4000000 in
theorem TJ_X8_fits_32 (xs : Nat → Int32) (L : Nat) (N : Nat) (s0 : Int32) (d0 : Value) (d1 : Value) (σ : aSt) (q : Int32 × aSt) (h : J_X8_fits_32 N s0 σ = some q) (hG : Gr σ) : Ev xs L 40 32 [d0, d1] [.int s0] σ (wI q.1) q.2 ∧ Gr q.2 := by
  have h : (cO (vp_nar .boolean s0 = s0) (some (s0, σ))) = some q := h
  obtain ⟨hc6, h⟩ := cO_inv h
  cases h
  exact ⟨ev_retZ rfl hc6, hG⟩
def J_X8_fits_27 (N : Nat) (σ : aSt) : Option (Int32 × aSt) := J_X8_fits_32 N 1 σ
set_option maxRecDepth 20000 in
set_option maxHeartbeats 4000000 in
theorem TJ_X8_fits_27 (xs : Nat → Int32) (L : Nat) (N : Nat) (d0 : Value) (d1 : Value) (σ : aSt) (q : Int32 × aSt) (h : J_X8_fits_27 N  σ = some q) (hG : Gr σ) : Ev xs L 40 27 [d0, d1] [] σ (wI q.1) q.2 ∧ Gr q.2 := by
  have h : (J_X8_fits_32 N 1 σ) = some q := h
  refine ev_a (fun he => ev_push rfl he) ?_
  refine ev_a (fun he => ev_goto rfl he) ?_
  exact TJ_X8_fits_32 xs L N 1 (d0) (d1) σ q h hG
def F_X8_fits (N : Nat) (x1 : Int32) (σ : aSt) : Option (Int32 × aSt) := if (aI σ 1 7) ≠ 0 then if (aI σ 1 7) ≠ 1 then if x1 = 17 then J_X8_fits_78 N σ else if x1 = 18 then J_X8_fits_78 N σ else if x1 ≠ 19 then if (aI σ 1 9) ≤ 0 then if (aI σ 1 8) ≠ 1 then if (aI σ 1 8) ≠ 2 then if x1 = 3 then J_X8_fits_153 N σ else if x1 ≠ 16 then J_X8_fits_158 N 0 σ else J_X8_fits_153 N σ else if x1 = 5 then J_X8_fits_136 N σ else if x1 = 4 then J_X8_fits_136 N σ else if x1 ≠ 16 then J_X8_fits_141 N 0 σ else J_X8_fits_136 N σ else oB (F_X10_isRelation N x1 σ) fun y20 σ21 => cO (vp_nar .boolean y20 = y20) (some (y20, σ21)) else if x1 ≠ 25 then J_X8_fits_98 N 0 σ else J_X8_fits_98 N 1 σ else J_X8_fits_78 N σ else if x1 = 24 then J_X8_fits_54 N σ else oB (F_X10_isOperand N x1 σ) fun y28 σ29 => if y28 = 0 then J_X8_fits_59 N 0 σ29 else J_X8_fits_54 N σ29 else if x1 = 0 then J_X8_fits_27 N σ else if x1 = 1 then J_X8_fits_27 N σ else if x1 = 2 then J_X8_fits_27 N σ else if x1 ≠ 27 then J_X8_fits_32 N 0 σ else J_X8_fits_27 N σ
set_option maxRecDepth 20000 in
set_option maxHeartbeats 4000000 in
theorem T_X8_fits (xs : Nat → Int32) (L : Nat) (N : Nat) (x1 : Int32) (σ : aSt) (q : Int32 × aSt) (h : F_X8_fits N x1 σ = some q) (hG : Gr σ) : Cal xs L 40 [.ref 1, .int x1] σ (wI q.1) q.2 ∧ Gr q.2 := by
  have h : (if (aI σ 1 7) ≠ 0 then if (aI σ 1 7) ≠ 1 then if x1 = 17 then J_X8_fits_78 N σ else if x1 = 18 then J_X8_fits_78 N σ else if x1 ≠ 19 then if (aI σ 1 9) ≤ 0 then if (aI σ 1 8) ≠ 1 then if (aI σ 1 8) ≠ 2 then if x1 = 3 then J_X8_fits_153 N σ else if x1 ≠ 16 then J_X8_fits_158 N 0 σ else J_X8_fits_153 N σ else if x1 = 5 then J_X8_fits_136 N σ else if x1 = 4 then J_X8_fits_136 N σ else if x1 ≠ 16 then J_X8_fits_141 N 0 σ else J_X8_fits_136 N σ else oB (F_X10_isRelation N x1 σ) fun y20 σ21 => cO (vp_nar .boolean y20 = y20) (some (y20, σ21)) else if x1 ≠ 25 then J_X8_fits_98 N 0 σ else J_X8_fits_98 N 1 σ else J_X8_fits_78 N σ else if x1 = 24 then J_X8_fits_54 N σ else oB (F_X10_isOperand N x1 σ) fun y28 σ29 => if y28 = 0 then J_X8_fits_59 N 0 σ29 else J_X8_fits_54 N σ29 else if x1 = 0 then J_X8_fits_27 N σ else if x1 = 1 then J_X8_fits_27 N σ else if x1 = 2 then J_X8_fits_27 N σ else if x1 ≠ 27 then J_X8_fits_32 N 0 σ else J_X8_fits_27 N σ) = some q := h
  show Ev xs L 40 0 [.ref 1, .int x1] [] σ (wI q.1) q.2 ∧ Gr q.2
  refine ev_a (fun he => ev_aload rfl rfl he) ?_
  refine ev_a (fun he => ev_getI rfl (gr_ob (n := 12) hG rfl) he) ?_
  refine ev_b (c := (aI σ 1 7) ≠ 0) (fun ht hf => ev_ifne rfl ht hf) (fun hc7 => ?_) (fun hc7 => ?_)
  · rw [if_pos hc7] at h
    refine ev_a (fun he => ev_aload rfl rfl he) ?_
    refine ev_a (fun he => ev_getI rfl (gr_ob (n := 12) hG rfl) he) ?_
    refine ev_a (fun he => ev_push rfl he) ?_
    refine ev_b (c := (aI σ 1 7) ≠ 1) (fun ht hf => ev_cne rfl ht hf) (fun hc8 => ?_) (fun hc8 => ?_)
    · rw [if_pos hc8] at h
      refine ev_a (fun he => ev_iload rfl rfl he) ?_
      refine ev_a (fun he => ev_push rfl he) ?_
      refine ev_b (c := x1 = 17) (fun ht hf => ev_ceq rfl ht hf) (fun hc9 => ?_) (fun hc9 => ?_)
      · rw [if_pos hc9] at h
        exact TJ_X8_fits_78 xs L N (.ref 1) (.int x1) σ q h hG
      · rw [if_neg hc9] at h
        refine ev_a (fun he => ev_iload rfl rfl he) ?_
        refine ev_a (fun he => ev_push rfl he) ?_
        refine ev_b (c := x1 = 18) (fun ht hf => ev_ceq rfl ht hf) (fun hc10 => ?_) (fun hc10 => ?_)
        · rw [if_pos hc10] at h
          exact TJ_X8_fits_78 xs L N (.ref 1) (.int x1) σ q h hG
        · rw [if_neg hc10] at h
          refine ev_a (fun he => ev_iload rfl rfl he) ?_
          refine ev_a (fun he => ev_push rfl he) ?_
          refine ev_b (c := x1 ≠ 19) (fun ht hf => ev_cne rfl ht hf) (fun hc11 => ?_) (fun hc11 => ?_)
          · rw [if_pos hc11] at h
            refine ev_a (fun he => ev_aload rfl rfl he) ?_
            refine ev_a (fun he => ev_getI rfl (gr_ob (n := 12) hG rfl) he) ?_
            refine ev_b (c := (aI σ 1 9) ≤ 0) (fun ht hf => ev_ifle rfl ht hf) (fun hc12 => ?_) (fun hc12 => ?_)
            · rw [if_pos hc12] at h
              refine ev_a (fun he => ev_aload rfl rfl he) ?_
              refine ev_a (fun he => ev_getI rfl (gr_ob (n := 12) hG rfl) he) ?_
              refine ev_a (fun he => ev_push rfl he) ?_
              refine ev_b (c := (aI σ 1 8) ≠ 1) (fun ht hf => ev_cne rfl ht hf) (fun hc13 => ?_) (fun hc13 => ?_)
              · rw [if_pos hc13] at h
                refine ev_a (fun he => ev_aload rfl rfl he) ?_
                refine ev_a (fun he => ev_getI rfl (gr_ob (n := 12) hG rfl) he) ?_
                refine ev_a (fun he => ev_push rfl he) ?_
                refine ev_b (c := (aI σ 1 8) ≠ 2) (fun ht hf => ev_cne rfl ht hf) (fun hc14 => ?_) (fun hc14 => ?_)
                · rw [if_pos hc14] at h
                  refine ev_a (fun he => ev_iload rfl rfl he) ?_
                  refine ev_a (fun he => ev_push rfl he) ?_
                  refine ev_b (c := x1 = 3) (fun ht hf => ev_ceq rfl ht hf) (fun hc15 => ?_) (fun hc15 => ?_)
                  · rw [if_pos hc15] at h
                    exact TJ_X8_fits_153 xs L N (.ref 1) (.int x1) σ q h hG
                  · rw [if_neg hc15] at h
                    refine ev_a (fun he => ev_iload rfl rfl he) ?_
                    refine ev_a (fun he => ev_push rfl he) ?_
                    refine ev_b (c := x1 ≠ 16) (fun ht hf => ev_cne rfl ht hf) (fun hc16 => ?_) (fun hc16 => ?_)
                    · rw [if_pos hc16] at h
                      refine ev_a (fun he => ev_push rfl he) ?_
                      exact TJ_X8_fits_158 xs L N 0 (.ref 1) (.int x1) σ q h hG
                    · rw [if_neg hc16] at h
                      exact TJ_X8_fits_153 xs L N (.ref 1) (.int x1) σ q h hG
                · rw [if_neg hc14] at h
                  refine ev_a (fun he => ev_iload rfl rfl he) ?_
                  refine ev_a (fun he => ev_push rfl he) ?_
                  refine ev_b (c := x1 = 5) (fun ht hf => ev_ceq rfl ht hf) (fun hc17 => ?_) (fun hc17 => ?_)
                  · rw [if_pos hc17] at h
                    exact TJ_X8_fits_136 xs L N (.ref 1) (.int x1) σ q h hG
                  · rw [if_neg hc17] at h
                    refine ev_a (fun he => ev_iload rfl rfl he) ?_
                    refine ev_a (fun he => ev_push rfl he) ?_
                    refine ev_b (c := x1 = 4) (fun ht hf => ev_ceq rfl ht hf) (fun hc18 => ?_) (fun hc18 => ?_)
                    · rw [if_pos hc18] at h
                      exact TJ_X8_fits_136 xs L N (.ref 1) (.int x1) σ q h hG
                    · rw [if_neg hc18] at h
                      refine ev_a (fun he => ev_iload rfl rfl he) ?_
                      refine ev_a (fun he => ev_push rfl he) ?_
                      refine ev_b (c := x1 ≠ 16) (fun ht hf => ev_cne rfl ht hf) (fun hc19 => ?_) (fun hc19 => ?_)
                      · rw [if_pos hc19] at h
                        refine ev_a (fun he => ev_push rfl he) ?_
                        exact TJ_X8_fits_141 xs L N 0 (.ref 1) (.int x1) σ q h hG
                      · rw [if_neg hc19] at h
                        exact TJ_X8_fits_136 xs L N (.ref 1) (.int x1) σ q h hG
              · rw [if_neg hc13] at h
                refine ev_a (fun he => ev_iload rfl rfl he) ?_
                obtain ⟨y20, σ21, h22, h⟩ := oB_inv h
                obtain ⟨c23, hG24⟩ := T_X10_isRelation xs L N x1 σ (y20, σ21) h22 hG
                refine ev_a (fun he => ev_callS (as := [.int x1]) rfl rfl rfl rfl (Nat.le_of_ble_eq_true rfl) (Nat.le_of_ble_eq_true rfl) c23 he) ?_
                obtain ⟨hc25, h⟩ := cO_inv h
                cases h
                exact ⟨ev_retZ rfl hc25, hG24⟩
            · rw [if_neg hc12] at h
              refine ev_a (fun he => ev_iload rfl rfl he) ?_
              refine ev_a (fun he => ev_push rfl he) ?_
              refine ev_b (c := x1 ≠ 25) (fun ht hf => ev_cne rfl ht hf) (fun hc26 => ?_) (fun hc26 => ?_)
              · rw [if_pos hc26] at h
                refine ev_a (fun he => ev_push rfl he) ?_
                exact TJ_X8_fits_98 xs L N 0 (.ref 1) (.int x1) σ q h hG
              · rw [if_neg hc26] at h
                refine ev_a (fun he => ev_push rfl he) ?_
                refine ev_a (fun he => ev_goto rfl he) ?_
                exact TJ_X8_fits_98 xs L N 1 (.ref 1) (.int x1) σ q h hG
          · rw [if_neg hc11] at h
            exact TJ_X8_fits_78 xs L N (.ref 1) (.int x1) σ q h hG
    · rw [if_neg hc8] at h
      refine ev_a (fun he => ev_iload rfl rfl he) ?_
      refine ev_a (fun he => ev_push rfl he) ?_
      refine ev_b (c := x1 = 24) (fun ht hf => ev_ceq rfl ht hf) (fun hc27 => ?_) (fun hc27 => ?_)
      · rw [if_pos hc27] at h
        exact TJ_X8_fits_54 xs L N (.ref 1) (.int x1) σ q h hG
      · rw [if_neg hc27] at h
        refine ev_a (fun he => ev_iload rfl rfl he) ?_
        obtain ⟨y28, σ29, h30, h⟩ := oB_inv h
        obtain ⟨c31, hG32⟩ := T_X10_isOperand xs L N x1 σ (y28, σ29) h30 hG
        refine ev_a (fun he => ev_callS (as := [.int x1]) rfl rfl rfl rfl (Nat.le_of_ble_eq_true rfl) (Nat.le_of_ble_eq_true rfl) c31 he) ?_
        refine ev_b (c := y28 = 0) (fun ht hf => ev_ifeq rfl ht hf) (fun hc33 => ?_) (fun hc33 => ?_)
        · rw [if_pos hc33] at h
          refine ev_a (fun he => ev_push rfl he) ?_
          exact TJ_X8_fits_59 xs L N 0 (.ref 1) (.int x1) σ29 q h hG32
        · rw [if_neg hc33] at h
          exact TJ_X8_fits_54 xs L N (.ref 1) (.int x1) σ29 q h hG32
  · rw [if_neg hc7] at h
    refine ev_a (fun he => ev_iload rfl rfl he) ?_
    refine ev_b (c := x1 = 0) (fun ht hf => ev_ifeq rfl ht hf) (fun hc34 => ?_) (fun hc34 => ?_)
    · rw [if_pos hc34] at h
      exact TJ_X8_fits_27 xs L N (.ref 1) (.int x1) σ q h hG
    · rw [if_neg hc34] at h
      refine ev_a (fun he => ev_iload rfl rfl he) ?_
      refine ev_a (fun he => ev_push rfl he) ?_
      refine ev_b (c := x1 = 1) (fun ht hf => ev_ceq rfl ht hf) (fun hc35 => ?_) (fun hc35 => ?_)
      · rw [if_pos hc35] at h
        exact TJ_X8_fits_27 xs L N (.ref 1) (.int x1) σ q h hG
      · rw [if_neg hc35] at h
        refine ev_a (fun he => ev_iload rfl rfl he) ?_
        refine ev_a (fun he => ev_push rfl he) ?_
        refine ev_b (c := x1 = 2) (fun ht hf => ev_ceq rfl ht hf) (fun hc36 => ?_) (fun hc36 => ?_)
        · rw [if_pos hc36] at h
          exact TJ_X8_fits_27 xs L N (.ref 1) (.int x1) σ q h hG
        · rw [if_neg hc36] at h
          refine ev_a (fun he => ev_iload rfl rfl he) ?_
          refine ev_a (fun he => ev_push rfl he) ?_
          refine ev_b (c := x1 ≠ 27) (fun ht hf => ev_cne rfl ht hf) (fun hc37 => ?_) (fun hc37 => ?_)
          · rw [if_pos hc37] at h
            refine ev_a (fun he => ev_push rfl he) ?_
            exact TJ_X8_fits_32 xs L N 0 (.ref 1) (.int x1) σ q h hG
          · rw [if_neg hc37] at h
            exact TJ_X8_fits_27 xs L N (.ref 1) (.int x1) σ q h hG
def J_X8_hasRoomFor_65 (N : Nat) (s0 : Int32) (σ : aSt) : Option (Int32 × aSt) := cO (vp_nar .boolean s0 = s0) (some (s0, σ))
set_option maxRecDepth 20000 in
set_option maxHeartbeats 4000000 in
theorem TJ_X8_hasRoomFor_65 (xs : Nat → Int32) (L : Nat) (N : Nat) (s0 : Int32) (d0 : Value) (d1 : Value) (σ : aSt) (q : Int32 × aSt) (h : J_X8_hasRoomFor_65 N s0 σ = some q) (hG : Gr σ) : Ev xs L 41 65 [d0, d1] [.int s0] σ (wI q.1) q.2 ∧ Gr q.2 := by
  have h : (cO (vp_nar .boolean s0 = s0) (some (s0, σ))) = some q := h
  obtain ⟨hc1, h⟩ := cO_inv h
  cases h
  exact ⟨ev_retZ rfl hc1, hG⟩
def J_X8_hasRoomFor_60 (N : Nat) (σ : aSt) : Option (Int32 × aSt) := J_X8_hasRoomFor_65 N 1 σ
set_option maxRecDepth 20000 in
set_option maxHeartbeats 4000000 in
theorem TJ_X8_hasRoomFor_60 (xs : Nat → Int32) (L : Nat) (N : Nat) (d0 : Value) (d1 : Value) (σ : aSt) (q : Int32 × aSt) (h : J_X8_hasRoomFor_60 N  σ = some q) (hG : Gr σ) : Ev xs L 41 60 [d0, d1] [] σ (wI q.1) q.2 ∧ Gr q.2 := by
  have h : (J_X8_hasRoomFor_65 N 1 σ) = some q := h
  refine ev_a (fun he => ev_push rfl he) ?_
  refine ev_a (fun he => ev_goto rfl he) ?_
  exact TJ_X8_hasRoomFor_65 xs L N 1 (d0) (d1) σ q h hG
def J_X8_hasRoomFor_44 (N : Nat) (s0 : Int32) (σ : aSt) : Option (Int32 × aSt) := cO (vp_nar .boolean s0 = s0) (some (s0, σ))
set_option maxRecDepth 20000 in
set_option maxHeartbeats 4000000 in
theorem TJ_X8_hasRoomFor_44 (xs : Nat → Int32) (L : Nat) (N : Nat) (s0 : Int32) (d0 : Value) (d1 : Value) (σ : aSt) (q : Int32 × aSt) (h : J_X8_hasRoomFor_44 N s0 σ = some q) (hG : Gr σ) : Ev xs L 41 44 [d0, d1] [.int s0] σ (wI q.1) q.2 ∧ Gr q.2 := by
  have h : (cO (vp_nar .boolean s0 = s0) (some (s0, σ))) = some q := h
  obtain ⟨hc2, h⟩ := cO_inv h
  cases h
  exact ⟨ev_retZ rfl hc2, hG⟩
def F_X8_hasRoomFor (N : Nat) (x1 : Int32) (σ : aSt) : Option (Int32 × aSt) := if x1 ≠ 27 then if (aI σ 1 6) < 400 then if (aI σ 1 7) ≠ 0 then if x1 ≠ 24 then J_X8_hasRoomFor_60 N σ else if 6 ≤ (aI σ 1 9) then J_X8_hasRoomFor_65 N 0 σ else J_X8_hasRoomFor_60 N σ else if 20 ≤ (aI σ (aTxt σ 1 2) 0) then J_X8_hasRoomFor_44 N 0 σ else J_X8_hasRoomFor_44 N 1 σ else cO (vp_nar .boolean 0 = 0) (some (0, σ)) else cO (vp_nar .boolean 1 = 1) (some (1, σ))
set_option maxRecDepth 20000 in
set_option maxHeartbeats 4000000 in
theorem T_X8_hasRoomFor (xs : Nat → Int32) (L : Nat) (N : Nat) (x1 : Int32) (σ : aSt) (q : Int32 × aSt) (h : F_X8_hasRoomFor N x1 σ = some q) (hG : Gr σ) : Cal xs L 41 [.ref 1, .int x1] σ (wI q.1) q.2 ∧ Gr q.2 := by
  have h : (if x1 ≠ 27 then if (aI σ 1 6) < 400 then if (aI σ 1 7) ≠ 0 then if x1 ≠ 24 then J_X8_hasRoomFor_60 N σ else if 6 ≤ (aI σ 1 9) then J_X8_hasRoomFor_65 N 0 σ else J_X8_hasRoomFor_60 N σ else if 20 ≤ (aI σ (aTxt σ 1 2) 0) then J_X8_hasRoomFor_44 N 0 σ else J_X8_hasRoomFor_44 N 1 σ else cO (vp_nar .boolean 0 = 0) (some (0, σ)) else cO (vp_nar .boolean 1 = 1) (some (1, σ))) = some q := h
  show Ev xs L 41 0 [.ref 1, .int x1] [] σ (wI q.1) q.2 ∧ Gr q.2
  refine ev_a (fun he => ev_iload rfl rfl he) ?_
  refine ev_a (fun he => ev_push rfl he) ?_
  refine ev_b (c := x1 ≠ 27) (fun ht hf => ev_cne rfl ht hf) (fun hc3 => ?_) (fun hc3 => ?_)
  · rw [if_pos hc3] at h
    refine ev_a (fun he => ev_aload rfl rfl he) ?_
    refine ev_a (fun he => ev_getI rfl (gr_ob (n := 12) hG rfl) he) ?_
    refine ev_a (fun he => ev_push rfl he) ?_
    refine ev_b (c := (aI σ 1 6) < 400) (fun ht hf => ev_clt rfl ht hf) (fun hc4 => ?_) (fun hc4 => ?_)
    · rw [if_pos hc4] at h
      refine ev_a (fun he => ev_aload rfl rfl he) ?_
      refine ev_a (fun he => ev_getI rfl (gr_ob (n := 12) hG rfl) he) ?_
      refine ev_b (c := (aI σ 1 7) ≠ 0) (fun ht hf => ev_ifne rfl ht hf) (fun hc5 => ?_) (fun hc5 => ?_)
      · rw [if_pos hc5] at h
        refine ev_a (fun he => ev_iload rfl rfl he) ?_
        refine ev_a (fun he => ev_push rfl he) ?_
        refine ev_b (c := x1 ≠ 24) (fun ht hf => ev_cne rfl ht hf) (fun hc6 => ?_) (fun hc6 => ?_)
        · rw [if_pos hc6] at h
          exact TJ_X8_hasRoomFor_60 xs L N (.ref 1) (.int x1) σ q h hG
        · rw [if_neg hc6] at h
          refine ev_a (fun he => ev_aload rfl rfl he) ?_
          refine ev_a (fun he => ev_getI rfl (gr_ob (n := 12) hG rfl) he) ?_
          refine ev_a (fun he => ev_push rfl he) ?_
          refine ev_b (c := 6 ≤ (aI σ 1 9)) (fun ht hf => ev_cge rfl ht hf) (fun hc7 => ?_) (fun hc7 => ?_)
          · rw [if_pos hc7] at h
            refine ev_a (fun he => ev_push rfl he) ?_
            exact TJ_X8_hasRoomFor_65 xs L N 0 (.ref 1) (.int x1) σ q h hG
          · rw [if_neg hc7] at h
            exact TJ_X8_hasRoomFor_60 xs L N (.ref 1) (.int x1) σ q h hG
      · rw [if_neg hc5] at h
        refine ev_a (fun he => ev_aload rfl rfl he) ?_
        refine ev_a (fun he => ev_getR rfl (gr_ob (n := 12) hG rfl) (gr_tx (a := 1) (k := 2) hG (by decide)).1 he) ?_
        refine ev_a (fun he => ev_getI rfl (gr_ob (n := 8) hG (sh_Tx0 (gr_tx (a := 1) (k := 2) hG (by decide)).2)) he) ?_
        refine ev_a (fun he => ev_push rfl he) ?_
        refine ev_b (c := 20 ≤ (aI σ (aTxt σ 1 2) 0)) (fun ht hf => ev_cge rfl ht hf) (fun hc8 => ?_) (fun hc8 => ?_)
        · rw [if_pos hc8] at h
          refine ev_a (fun he => ev_push rfl he) ?_
          exact TJ_X8_hasRoomFor_44 xs L N 0 (.ref 1) (.int x1) σ q h hG
        · rw [if_neg hc8] at h
          refine ev_a (fun he => ev_push rfl he) ?_
          refine ev_a (fun he => ev_goto rfl he) ?_
          exact TJ_X8_hasRoomFor_44 xs L N 1 (.ref 1) (.int x1) σ q h hG
    · rw [if_neg hc4] at h
      refine ev_a (fun he => ev_push rfl he) ?_
      obtain ⟨hc9, h⟩ := cO_inv h
      cases h
      exact ⟨ev_retZ rfl hc9, hG⟩
  · rw [if_neg hc3] at h
    refine ev_a (fun he => ev_push rfl he) ?_
    obtain ⟨hc10, h⟩ := cO_inv h
    cases h
    exact ⟨ev_retZ rfl hc10, hG⟩
def J_X8_faultOf_23 (N : Nat) (s0 : Int32) (σ : aSt) : Option (Int32 × aSt) := some (s0, σ)
set_option maxRecDepth 20000 in
set_option maxHeartbeats 4000000 in
theorem TJ_X8_faultOf_23 (xs : Nat → Int32) (L : Nat) (N : Nat) (s0 : Int32) (d0 : Value) (d1 : Value) (σ : aSt) (q : Int32 × aSt) (h : J_X8_faultOf_23 N s0 σ = some q) (hG : Gr σ) : Ev xs L 39 23 [d0, d1] [.int s0] σ (wI q.1) q.2 ∧ Gr q.2 := by
  have h : (some (s0, σ)) = some q := h
  cases h
  exact ⟨ev_retI rfl, hG⟩
def F_X8_faultOf (N : Nat) (x1 : Int32) (σ : aSt) : Option (Int32 × aSt) := oB (F_X8_fits N x1 σ) fun y1 σ2 => if y1 ≠ 0 then oB (F_X8_hasRoomFor N x1 σ2) fun y7 σ8 => if y7 = 0 then J_X8_faultOf_23 N 2 σ8 else J_X8_faultOf_23 N 0 σ8 else some (1, σ2)
set_option maxRecDepth 20000 in
set_option maxHeartbeats 4000000 in
theorem T_X8_faultOf (xs : Nat → Int32) (L : Nat) (N : Nat) (x1 : Int32) (σ : aSt) (q : Int32 × aSt) (h : F_X8_faultOf N x1 σ = some q) (hG : Gr σ) : Cal xs L 39 [.ref 1, .int x1] σ (wI q.1) q.2 ∧ Gr q.2 := by
  have h : (oB (F_X8_fits N x1 σ) fun y1 σ2 => if y1 ≠ 0 then oB (F_X8_hasRoomFor N x1 σ2) fun y7 σ8 => if y7 = 0 then J_X8_faultOf_23 N 2 σ8 else J_X8_faultOf_23 N 0 σ8 else some (1, σ2)) = some q := h
  show Ev xs L 39 0 [.ref 1, .int x1] [] σ (wI q.1) q.2 ∧ Gr q.2
  refine ev_a (fun he => ev_aload rfl rfl he) ?_
  refine ev_a (fun he => ev_iload rfl rfl he) ?_
  obtain ⟨y1, σ2, h3, h⟩ := oB_inv h
  obtain ⟨c4, hG5⟩ := T_X8_fits xs L N x1 σ (y1, σ2) h3 hG
  refine ev_a (fun he => ev_callV (as := [.int x1]) rfl (gr_ob (n := 12) hG rfl) rfl rfl rfl (Nat.le_of_ble_eq_true rfl) (Nat.le_of_ble_eq_true rfl) c4 he) ?_
  refine ev_b (c := y1 ≠ 0) (fun ht hf => ev_ifne rfl ht hf) (fun hc6 => ?_) (fun hc6 => ?_)
  · rw [if_pos hc6] at h
    refine ev_a (fun he => ev_aload rfl rfl he) ?_
    refine ev_a (fun he => ev_iload rfl rfl he) ?_
    obtain ⟨y7, σ8, h9, h⟩ := oB_inv h
    obtain ⟨c10, hG11⟩ := T_X8_hasRoomFor xs L N x1 σ2 (y7, σ8) h9 hG5
    refine ev_a (fun he => ev_callV (as := [.int x1]) rfl (gr_ob (n := 12) hG5 rfl) rfl rfl rfl (Nat.le_of_ble_eq_true rfl) (Nat.le_of_ble_eq_true rfl) c10 he) ?_
    refine ev_b (c := y7 = 0) (fun ht hf => ev_ifeq rfl ht hf) (fun hc12 => ?_) (fun hc12 => ?_)
    · rw [if_pos hc12] at h
      refine ev_a (fun he => ev_push rfl he) ?_
      exact TJ_X8_faultOf_23 xs L N 2 (.ref 1) (.int x1) σ8 q h hG11
    · rw [if_neg hc12] at h
      refine ev_a (fun he => ev_push rfl he) ?_
      refine ev_a (fun he => ev_goto rfl he) ?_
      exact TJ_X8_faultOf_23 xs L N 0 (.ref 1) (.int x1) σ8 q h hG11
  · rw [if_neg hc6] at h
    refine ev_a (fun he => ev_push rfl he) ?_
    cases h
    exact ⟨ev_retI rfl, hG5⟩
