def F_X2_setLotVariables (N : Nat) (x1 : Int32) (σ : aSt) : Option (Unit × aSt) := cO (¬ (x1 < 0 ∨ 24 ≤ x1.toNatClampNeg)) (lt (aWI σ 22 0 (aI σ (23 + x1.toNatClampNeg) 0)) fun σ3 => lt (aWI σ3 22 1 (aI σ3 (23 + x1.toNatClampNeg) 1)) fun σ7 => lt (aWI σ7 22 2 (aI σ7 (23 + x1.toNatClampNeg) 2)) fun σ11 => lt (aWI σ11 22 3 (aI σ11 (23 + x1.toNatClampNeg) 3)) fun σ15 => lt (aWI σ15 22 4 (aI σ15 (23 + x1.toNatClampNeg) 4)) fun σ19 => cO (¬ ((aI σ19 (23 + x1.toNatClampNeg) 1) < 0 ∨ 6 ≤ (aI σ19 (23 + x1.toNatClampNeg) 1).toNatClampNeg)) (lt (aWI σ19 22 5 (aI σ19 14 (aI σ19 (23 + x1.toNatClampNeg) 1).toNatClampNeg)) fun σ24 => lt (aWI σ24 22 6 0) fun σ28 => lt (aWI σ28 22 7 0) fun σ32 => lt (aWI σ32 22 8 0) fun σ36 => lt (aWI σ36 22 9 x1) fun σ40 => some ((), σ40)))
set_option maxRecDepth 20000 in
set_option maxHeartbeats 4000000 in
theorem T_X2_setLotVariables (xs : Nat → Int32) (L : Nat) (N : Nat) (x1 : Int32) (σ : aSt) (q : Unit × aSt) (h : F_X2_setLotVariables N x1 σ = some q) (hG : Gr σ) : Cal xs L 16 [.ref 11, .int x1] σ (wV q.1) q.2 ∧ Gr q.2 := by
  have h : (cO (¬ (x1 < 0 ∨ 24 ≤ x1.toNatClampNeg)) (lt (aWI σ 22 0 (aI σ (23 + x1.toNatClampNeg) 0)) fun σ3 => lt (aWI σ3 22 1 (aI σ3 (23 + x1.toNatClampNeg) 1)) fun σ7 => lt (aWI σ7 22 2 (aI σ7 (23 + x1.toNatClampNeg) 2)) fun σ11 => lt (aWI σ11 22 3 (aI σ11 (23 + x1.toNatClampNeg) 3)) fun σ15 => lt (aWI σ15 22 4 (aI σ15 (23 + x1.toNatClampNeg) 4)) fun σ19 => cO (¬ ((aI σ19 (23 + x1.toNatClampNeg) 1) < 0 ∨ 6 ≤ (aI σ19 (23 + x1.toNatClampNeg) 1).toNatClampNeg)) (lt (aWI σ19 22 5 (aI σ19 14 (aI σ19 (23 + x1.toNatClampNeg) 1).toNatClampNeg)) fun σ24 => lt (aWI σ24 22 6 0) fun σ28 => lt (aWI σ28 22 7 0) fun σ32 => lt (aWI σ32 22 8 0) fun σ36 => lt (aWI σ36 22 9 x1) fun σ40 => some ((), σ40)))) = some q := h
  show Ev xs L 16 0 [.ref 11, .int x1, aU] [] σ (wV q.1) q.2 ∧ Gr q.2
  refine ev_a (fun he => ev_aload rfl rfl he) ?_
  refine ev_a (fun he => ev_getR rfl (gr_ob (n := 7) hG rfl) (gr_p (a := 11) (k := 0) (b := 12) hG rfl) he) ?_
  refine ev_a (fun he => ev_iload rfl rfl he) ?_
  obtain ⟨hc1, h⟩ := cO_inv h
  refine ev_a (fun he => ev_aldR rfl (gr_ar hG rfl) (by decide) hc1 (gr_p hG (el_Lo hc1).1) he) ?_
  refine ev_a (fun he => ev_astore (ls' := [.ref 11, .int x1, .ref (23 + x1.toNatClampNeg)]) rfl (Nat.le_of_ble_eq_true rfl) rfl he) ?_
  refine ev_a (fun he => ev_aload rfl rfl he) ?_
  refine ev_a (fun he => ev_getR rfl (gr_ob (n := 7) hG rfl) (gr_p (a := 11) (k := 6) (b := 22) hG rfl) he) ?_
  refine ev_a (fun he => ev_push rfl he) ?_
  refine ev_a (fun he => ev_aload rfl rfl he) ?_
  refine ev_a (fun he => ev_getI rfl (gr_ob (n := 5) hG (sh_Lo0 (el_Lo hc1).2)) he) ?_
  obtain ⟨σ3, e4, h⟩ := lt_inv h
  have hG5 : Gr σ3 := gr_wi e4 hG
  refine ev_a (fun he => ev_astI (k := 0) rfl (gr_ar hG rfl) (by decide) (by decide) rfl e4 he) ?_
  refine ev_a (fun he => ev_aload rfl rfl he) ?_
  refine ev_a (fun he => ev_getR rfl (gr_ob (n := 7) hG5 rfl) (gr_p (a := 11) (k := 6) (b := 22) hG5 rfl) he) ?_
  refine ev_a (fun he => ev_push rfl he) ?_
  refine ev_a (fun he => ev_aload rfl rfl he) ?_
  refine ev_a (fun he => ev_getI rfl (gr_ob (n := 5) hG5 (sh_Lo0 (el_Lo hc1).2)) he) ?_
  obtain ⟨σ7, e8, h⟩ := lt_inv h
  have hG9 : Gr σ7 := gr_wi e8 hG5
  refine ev_a (fun he => ev_astI (k := 1) rfl (gr_ar hG5 rfl) (by decide) (by decide) rfl e8 he) ?_
  refine ev_a (fun he => ev_aload rfl rfl he) ?_
  refine ev_a (fun he => ev_getR rfl (gr_ob (n := 7) hG9 rfl) (gr_p (a := 11) (k := 6) (b := 22) hG9 rfl) he) ?_
  refine ev_a (fun he => ev_push rfl he) ?_
  refine ev_a (fun he => ev_aload rfl rfl he) ?_
  refine ev_a (fun he => ev_getI rfl (gr_ob (n := 5) hG9 (sh_Lo0 (el_Lo hc1).2)) he) ?_
  obtain ⟨σ11, e12, h⟩ := lt_inv h
  have hG13 : Gr σ11 := gr_wi e12 hG9
  refine ev_a (fun he => ev_astI (k := 2) rfl (gr_ar hG9 rfl) (by decide) (by decide) rfl e12 he) ?_
  refine ev_a (fun he => ev_aload rfl rfl he) ?_
  refine ev_a (fun he => ev_getR rfl (gr_ob (n := 7) hG13 rfl) (gr_p (a := 11) (k := 6) (b := 22) hG13 rfl) he) ?_
  refine ev_a (fun he => ev_push rfl he) ?_
  refine ev_a (fun he => ev_aload rfl rfl he) ?_
  refine ev_a (fun he => ev_getI rfl (gr_ob (n := 5) hG13 (sh_Lo0 (el_Lo hc1).2)) he) ?_
  obtain ⟨σ15, e16, h⟩ := lt_inv h
  have hG17 : Gr σ15 := gr_wi e16 hG13
  refine ev_a (fun he => ev_astI (k := 3) rfl (gr_ar hG13 rfl) (by decide) (by decide) rfl e16 he) ?_
  refine ev_a (fun he => ev_aload rfl rfl he) ?_
  refine ev_a (fun he => ev_getR rfl (gr_ob (n := 7) hG17 rfl) (gr_p (a := 11) (k := 6) (b := 22) hG17 rfl) he) ?_
  refine ev_a (fun he => ev_push rfl he) ?_
  refine ev_a (fun he => ev_aload rfl rfl he) ?_
  refine ev_a (fun he => ev_getI rfl (gr_ob (n := 5) hG17 (sh_Lo0 (el_Lo hc1).2)) he) ?_
  obtain ⟨σ19, e20, h⟩ := lt_inv h
  have hG21 : Gr σ19 := gr_wi e20 hG17
  refine ev_a (fun he => ev_astI (k := 4) rfl (gr_ar hG17 rfl) (by decide) (by decide) rfl e20 he) ?_
  refine ev_a (fun he => ev_aload rfl rfl he) ?_
  refine ev_a (fun he => ev_getR rfl (gr_ob (n := 7) hG21 rfl) (gr_p (a := 11) (k := 6) (b := 22) hG21 rfl) he) ?_
  refine ev_a (fun he => ev_push rfl he) ?_
  refine ev_a (fun he => ev_aload rfl rfl he) ?_
  refine ev_a (fun he => ev_getR rfl (gr_ob (n := 7) hG21 rfl) (gr_p (a := 11) (k := 4) (b := 14) hG21 rfl) he) ?_
  refine ev_a (fun he => ev_aload rfl rfl he) ?_
  refine ev_a (fun he => ev_getI rfl (gr_ob (n := 5) hG21 (sh_Lo0 (el_Lo hc1).2)) he) ?_
  obtain ⟨hc22, h⟩ := cO_inv h
  refine ev_a (fun he => ev_aldI (k := (aI σ19 (23 + x1.toNatClampNeg) 1).toNatClampNeg) rfl (gr_ar hG21 rfl) hc22 rfl he) ?_
  obtain ⟨σ24, e25, h⟩ := lt_inv h
  have hG26 : Gr σ24 := gr_wi e25 hG21
  refine ev_a (fun he => ev_astI (k := 5) rfl (gr_ar hG21 rfl) (by decide) (by decide) rfl e25 he) ?_
  refine ev_a (fun he => ev_aload rfl rfl he) ?_
  refine ev_a (fun he => ev_getR rfl (gr_ob (n := 7) hG26 rfl) (gr_p (a := 11) (k := 6) (b := 22) hG26 rfl) he) ?_
  refine ev_a (fun he => ev_push rfl he) ?_
  refine ev_a (fun he => ev_push rfl he) ?_
  obtain ⟨σ28, e29, h⟩ := lt_inv h
  have hG30 : Gr σ28 := gr_wi e29 hG26
  refine ev_a (fun he => ev_astI (k := 6) rfl (gr_ar hG26 rfl) (by decide) (by decide) rfl e29 he) ?_
  refine ev_a (fun he => ev_aload rfl rfl he) ?_
  refine ev_a (fun he => ev_getR rfl (gr_ob (n := 7) hG30 rfl) (gr_p (a := 11) (k := 6) (b := 22) hG30 rfl) he) ?_
  refine ev_a (fun he => ev_push rfl he) ?_
  refine ev_a (fun he => ev_push rfl he) ?_
  obtain ⟨σ32, e33, h⟩ := lt_inv h
  have hG34 : Gr σ32 := gr_wi e33 hG30
  refine ev_a (fun he => ev_astI (k := 7) rfl (gr_ar hG30 rfl) (by decide) (by decide) rfl e33 he) ?_
  refine ev_a (fun he => ev_aload rfl rfl he) ?_
  refine ev_a (fun he => ev_getR rfl (gr_ob (n := 7) hG34 rfl) (gr_p (a := 11) (k := 6) (b := 22) hG34 rfl) he) ?_
  refine ev_a (fun he => ev_push rfl he) ?_
  refine ev_a (fun he => ev_push rfl he) ?_
  obtain ⟨σ36, e37, h⟩ := lt_inv h
  have hG38 : Gr σ36 := gr_wi e37 hG34
  refine ev_a (fun he => ev_astI (k := 8) rfl (gr_ar hG34 rfl) (by decide) (by decide) rfl e37 he) ?_
  refine ev_a (fun he => ev_aload rfl rfl he) ?_
  refine ev_a (fun he => ev_getR rfl (gr_ob (n := 7) hG38 rfl) (gr_p (a := 11) (k := 6) (b := 22) hG38 rfl) he) ?_
  refine ev_a (fun he => ev_push rfl he) ?_
  refine ev_a (fun he => ev_iload rfl rfl he) ?_
  obtain ⟨σ40, e41, h⟩ := lt_inv h
  have hG42 : Gr σ40 := gr_wi e41 hG38
  refine ev_a (fun he => ev_astI (k := 9) rfl (gr_ar hG38 rfl) (by decide) (by decide) rfl e41 he) ?_
  cases h
  exact ⟨ev_retV rfl, hG42⟩
def J_X10_isOperand_23 (N : Nat) (s0 : Int32) (σ : aSt) : Option (Int32 × aSt) := cO (vp_nar .boolean s0 = s0) (some (s0, σ))
set_option maxRecDepth 20000 in
set_option maxHeartbeats 4000000 in
theorem TJ_X10_isOperand_23 (xs : Nat → Int32) (L : Nat) (N : Nat) (s0 : Int32) (d0 : Value) (σ : aSt) (q : Int32 × aSt) (h : J_X10_isOperand_23 N s0 σ = some q) (hG : Gr σ) : Ev xs L 81 23 [d0] [.int s0] σ (wI q.1) q.2 ∧ Gr q.2 := by
  have h : (cO (vp_nar .boolean s0 = s0) (some (s0, σ))) = some q := h
  obtain ⟨hc1, h⟩ := cO_inv h
  cases h
  exact ⟨ev_retZ rfl hc1, hG⟩
def J_X10_isOperand_18 (N : Nat) (σ : aSt) : Option (Int32 × aSt) := J_X10_isOperand_23 N 1 σ
set_option maxRecDepth 20000 in
set_option maxHeartbeats 4000000 in
theorem TJ_X10_isOperand_18 (xs : Nat → Int32) (L : Nat) (N : Nat) (d0 : Value) (σ : aSt) (q : Int32 × aSt) (h : J_X10_isOperand_18 N  σ = some q) (hG : Gr σ) : Ev xs L 81 18 [d0] [] σ (wI q.1) q.2 ∧ Gr q.2 := by
  have h : (J_X10_isOperand_23 N 1 σ) = some q := h
  refine ev_a (fun he => ev_push rfl he) ?_
  refine ev_a (fun he => ev_goto rfl he) ?_
  exact TJ_X10_isOperand_23 xs L N 1 (d0) σ q h hG
def J_X10_isOperand_22 (N : Nat) (σ : aSt) : Option (Int32 × aSt) := J_X10_isOperand_23 N 0 σ
set_option maxRecDepth 20000 in
set_option maxHeartbeats 4000000 in
theorem TJ_X10_isOperand_22 (xs : Nat → Int32) (L : Nat) (N : Nat) (d0 : Value) (σ : aSt) (q : Int32 × aSt) (h : J_X10_isOperand_22 N  σ = some q) (hG : Gr σ) : Ev xs L 81 22 [d0] [] σ (wI q.1) q.2 ∧ Gr q.2 := by
  have h : (J_X10_isOperand_23 N 0 σ) = some q := h
  refine ev_a (fun he => ev_push rfl he) ?_
  exact TJ_X10_isOperand_23 xs L N 0 (d0) σ q h hG
def F_X10_isOperand (N : Nat) (x0 : Int32) (σ : aSt) : Option (Int32 × aSt) := if 32 ≤ x0 then J_X10_isOperand_18 N σ else if x0 < 6 then J_X10_isOperand_22 N σ else if 15 < x0 then J_X10_isOperand_22 N σ else J_X10_isOperand_18 N σ
set_option maxRecDepth 20000 in
set_option maxHeartbeats 4000000 in
theorem T_X10_isOperand (xs : Nat → Int32) (L : Nat) (N : Nat) (x0 : Int32) (σ : aSt) (q : Int32 × aSt) (h : F_X10_isOperand N x0 σ = some q) (hG : Gr σ) : Cal xs L 81 [.int x0] σ (wI q.1) q.2 ∧ Gr q.2 := by
  have h : (if 32 ≤ x0 then J_X10_isOperand_18 N σ else if x0 < 6 then J_X10_isOperand_22 N σ else if 15 < x0 then J_X10_isOperand_22 N σ else J_X10_isOperand_18 N σ) = some q := h
  show Ev xs L 81 0 [.int x0] [] σ (wI q.1) q.2 ∧ Gr q.2
  refine ev_a (fun he => ev_iload rfl rfl he) ?_
  refine ev_a (fun he => ev_push rfl he) ?_
  refine ev_b (c := 32 ≤ x0) (fun ht hf => ev_cge rfl ht hf) (fun hc2 => ?_) (fun hc2 => ?_)
  · rw [if_pos hc2] at h
    exact TJ_X10_isOperand_18 xs L N (.int x0) σ q h hG
  · rw [if_neg hc2] at h
    refine ev_a (fun he => ev_iload rfl rfl he) ?_
    refine ev_a (fun he => ev_push rfl he) ?_
    refine ev_b (c := x0 < 6) (fun ht hf => ev_clt rfl ht hf) (fun hc3 => ?_) (fun hc3 => ?_)
    · rw [if_pos hc3] at h
      exact TJ_X10_isOperand_22 xs L N (.int x0) σ q h hG
    · rw [if_neg hc3] at h
      refine ev_a (fun he => ev_iload rfl rfl he) ?_
      refine ev_a (fun he => ev_push rfl he) ?_
      refine ev_b (c := 15 < x0) (fun ht hf => ev_cgt rfl ht hf) (fun hc4 => ?_) (fun hc4 => ?_)
      · rw [if_pos hc4] at h
        exact TJ_X10_isOperand_22 xs L N (.int x0) σ q h hG
      · rw [if_neg hc4] at h
        exact TJ_X10_isOperand_18 xs L N (.int x0) σ q h hG
def J_X10_worth_33 (N : Nat) (s0 : Int32) (σ : aSt) : Option (Int32 × aSt) := some (s0, σ)
set_option maxRecDepth 20000 in
set_option maxHeartbeats 4000000 in
theorem TJ_X10_worth_33 (xs : Nat → Int32) (L : Nat) (N : Nat) (s0 : Int32) (d0 : Value) (d1 : Value) (d2 : Value) (σ : aSt) (q : Int32 × aSt) (h : J_X10_worth_33 N s0 σ = some q) (hG : Gr σ) : Ev xs L 91 33 [d0, d1, d2] [.int s0] σ (wI q.1) q.2 ∧ Gr q.2 := by
  have h : (some (s0, σ)) = some q := h
  cases h
  exact ⟨ev_retI rfl, hG⟩
def J_X10_worth_32 (N : Nat) (σ : aSt) : Option (Int32 × aSt) := J_X10_worth_33 N 0 σ
set_option maxRecDepth 20000 in
set_option maxHeartbeats 4000000 in
theorem TJ_X10_worth_32 (xs : Nat → Int32) (L : Nat) (N : Nat) (d0 : Value) (d1 : Value) (d2 : Value) (σ : aSt) (q : Int32 × aSt) (h : J_X10_worth_32 N  σ = some q) (hG : Gr σ) : Ev xs L 91 32 [d0, d1, d2] [] σ (wI q.1) q.2 ∧ Gr q.2 := by
  have h : (J_X10_worth_33 N 0 σ) = some q := h
  refine ev_a (fun he => ev_push rfl he) ?_
  exact TJ_X10_worth_33 xs L N 0 (d0) (d1) (d2) σ q h hG
def F_X10_worth (N : Nat) (x0 : Int32) (σ : aSt) : Option (Int32 × aSt) := if x0 < 32 then if (x0 - 6) < 0 then J_X10_worth_32 N σ else if (Int32.ofNat 10) ≤ (x0 - 6) then J_X10_worth_32 N σ else cO (¬ ((x0 - 6) < 0 ∨ 10 ≤ (x0 - 6).toNatClampNeg)) (J_X10_worth_33 N (aI σ 22 (x0 - 6).toNatClampNeg) σ) else some (x0 - 32, σ)
set_option maxRecDepth 20000 in
set_option maxHeartbeats 4000000 in
theorem T_X10_worth (xs : Nat → Int32) (L : Nat) (N : Nat) (x0 : Int32) (σ : aSt) (q : Int32 × aSt) (h : F_X10_worth N x0 σ = some q) (hG : Gr σ) : Cal xs L 91 [.int x0, .ref 22] σ (wI q.1) q.2 ∧ Gr q.2 := by
  have h : (if x0 < 32 then if (x0 - 6) < 0 then J_X10_worth_32 N σ else if (Int32.ofNat 10) ≤ (x0 - 6) then J_X10_worth_32 N σ else cO (¬ ((x0 - 6) < 0 ∨ 10 ≤ (x0 - 6).toNatClampNeg)) (J_X10_worth_33 N (aI σ 22 (x0 - 6).toNatClampNeg) σ) else some (x0 - 32, σ)) = some q := h
  show Ev xs L 91 0 [.int x0, .ref 22, aU] [] σ (wI q.1) q.2 ∧ Gr q.2
  refine ev_a (fun he => ev_iload rfl rfl he) ?_
  refine ev_a (fun he => ev_push rfl he) ?_
  refine ev_b (c := x0 < 32) (fun ht hf => ev_clt rfl ht hf) (fun hc1 => ?_) (fun hc1 => ?_)
  · rw [if_pos hc1] at h
    refine ev_a (fun he => ev_iload rfl rfl he) ?_
    refine ev_a (fun he => ev_push rfl he) ?_
    refine ev_a (fun he => ev_bin (z := x0 - 6) rfl rfl he) ?_
    refine ev_a (fun he => ev_istore (ls' := [.int x0, .ref 22, .int (x0 - 6)]) rfl (Nat.le_of_ble_eq_true rfl) rfl he) ?_
    refine ev_a (fun he => ev_iload rfl rfl he) ?_
    refine ev_b (c := (x0 - 6) < 0) (fun ht hf => ev_iflt rfl ht hf) (fun hc2 => ?_) (fun hc2 => ?_)
    · rw [if_pos hc2] at h
      exact TJ_X10_worth_32 xs L N (.int x0) (.ref 22) (.int (x0 - 6)) σ q h hG
    · rw [if_neg hc2] at h
      refine ev_a (fun he => ev_iload rfl rfl he) ?_
      refine ev_a (fun he => ev_aload rfl rfl he) ?_
      refine ev_a (fun he => ev_len rfl (gr_ar hG rfl) (by decide) he) ?_
      refine ev_b (c := (Int32.ofNat 10) ≤ (x0 - 6)) (fun ht hf => ev_cge rfl ht hf) (fun hc3 => ?_) (fun hc3 => ?_)
      · rw [if_pos hc3] at h
        exact TJ_X10_worth_32 xs L N (.int x0) (.ref 22) (.int (x0 - 6)) σ q h hG
      · rw [if_neg hc3] at h
        refine ev_a (fun he => ev_aload rfl rfl he) ?_
        refine ev_a (fun he => ev_iload rfl rfl he) ?_
        obtain ⟨hc4, h⟩ := cO_inv h
        refine ev_a (fun he => ev_aldI (k := (x0 - 6).toNatClampNeg) rfl (gr_ar hG rfl) hc4 rfl he) ?_
        refine ev_a (fun he => ev_goto rfl he) ?_
        exact TJ_X10_worth_33 xs L N (aI σ 22 (x0 - 6).toNatClampNeg) (.int x0) (.ref 22) (.int (x0 - 6)) σ q h hG
  · rw [if_neg hc1] at h
    refine ev_a (fun he => ev_iload rfl rfl he) ?_
    refine ev_a (fun he => ev_push rfl he) ?_
    refine ev_a (fun he => ev_bin (z := x0 - 32) rfl rfl he) ?_
    cases h
    exact ⟨ev_retI rfl, hG⟩
def J_X10_combine_152 (N : Nat) (x1 : Int32) (x2 : Int32) (σ : aSt) : Option (Int32 × aSt) := some (x1 ||| x2, σ)
set_option maxRecDepth 20000 in
set_option maxHeartbeats 4000000 in
theorem TJ_X10_combine_152 (xs : Nat → Int32) (L : Nat) (N : Nat) (x1 : Int32) (x2 : Int32) (d0 : Value) (σ : aSt) (q : Int32 × aSt) (h : J_X10_combine_152 N x1 x2 σ = some q) (hG : Gr σ) : Ev xs L 92 152 [d0, .int x1, .int x2] [] σ (wI q.1) q.2 ∧ Gr q.2 := by
  have h : (some (x1 ||| x2, σ)) = some q := h
  refine ev_a (fun he => ev_iload rfl rfl he) ?_
  refine ev_a (fun he => ev_iload rfl rfl he) ?_
  refine ev_a (fun he => ev_bin (z := x1 ||| x2) rfl rfl he) ?_
  cases h
  exact ⟨ev_retI rfl, hG⟩
def J_X10_combine_114 (N : Nat) (s0 : Int32) (σ : aSt) : Option (Int32 × aSt) := some (s0, σ)
set_option maxRecDepth 20000 in
set_option maxHeartbeats 4000000 in
theorem TJ_X10_combine_114 (xs : Nat → Int32) (L : Nat) (N : Nat) (s0 : Int32) (d0 : Value) (d1 : Value) (d2 : Value) (σ : aSt) (q : Int32 × aSt) (h : J_X10_combine_114 N s0 σ = some q) (hG : Gr σ) : Ev xs L 92 114 [d0, d1, d2] [.int s0] σ (wI q.1) q.2 ∧ Gr q.2 := by
  have h : (some (s0, σ)) = some q := h
  cases h
  exact ⟨ev_retI rfl, hG⟩
def J_X10_combine_125 (N : Nat) (s0 : Int32) (σ : aSt) : Option (Int32 × aSt) := some (s0, σ)
set_option maxRecDepth 20000 in
set_option maxHeartbeats 4000000 in
theorem TJ_X10_combine_125 (xs : Nat → Int32) (L : Nat) (N : Nat) (s0 : Int32) (d0 : Value) (d1 : Value) (d2 : Value) (σ : aSt) (q : Int32 × aSt) (h : J_X10_combine_125 N s0 σ = some q) (hG : Gr σ) : Ev xs L 92 125 [d0, d1, d2] [.int s0] σ (wI q.1) q.2 ∧ Gr q.2 := by
  have h : (some (s0, σ)) = some q := h
  cases h
  exact ⟨ev_retI rfl, hG⟩
def J_X10_combine_136 (N : Nat) (s0 : Int32) (σ : aSt) : Option (Int32 × aSt) := some (s0, σ)
set_option maxRecDepth 20000 in
set_option maxHeartbeats 4000000 in
theorem TJ_X10_combine_136 (xs : Nat → Int32) (L : Nat) (N : Nat) (s0 : Int32) (d0 : Value) (d1 : Value) (d2 : Value) (σ : aSt) (q : Int32 × aSt) (h : J_X10_combine_136 N s0 σ = some q) (hG : Gr σ) : Ev xs L 92 136 [d0, d1, d2] [.int s0] σ (wI q.1) q.2 ∧ Gr q.2 := by
  have h : (some (s0, σ)) = some q := h
  cases h
  exact ⟨ev_retI rfl, hG⟩
def J_X10_combine_147 (N : Nat) (s0 : Int32) (σ : aSt) : Option (Int32 × aSt) := some (s0, σ)
set_option maxRecDepth 20000 in
set_option maxHeartbeats 4000000 in
theorem TJ_X10_combine_147 (xs : Nat → Int32) (L : Nat) (N : Nat) (s0 : Int32) (d0 : Value) (d1 : Value) (d2 : Value) (σ : aSt) (q : Int32 × aSt) (h : J_X10_combine_147 N s0 σ = some q) (hG : Gr σ) : Ev xs L 92 147 [d0, d1, d2] [.int s0] σ (wI q.1) q.2 ∧ Gr q.2 := by
  have h : (some (s0, σ)) = some q := h
  cases h
  exact ⟨ev_retI rfl, hG⟩
def F_X10_combine (N : Nat) (x0 : Int32) (x1 : Int32) (x2 : Int32) (σ : aSt) : Option (Int32 × aSt) := if x0 = 5 then (some (x1 &&& x2, σ)) else if x0 = 17 then (some (x1 + x2, σ)) else if x0 = 18 then (some (x1 - x2, σ)) else if x0 = 19 then (some (x1 * x2, σ)) else if x0 = 20 then (if x1 ≠ x2 then J_X10_combine_114 N 0 σ else J_X10_combine_114 N 1 σ) else if x0 = 21 then (if x1 = x2 then J_X10_combine_125 N 0 σ else J_X10_combine_125 N 1 σ) else if x0 = 22 then (if x2 ≤ x1 then J_X10_combine_136 N 0 σ else J_X10_combine_136 N 1 σ) else if x0 = 23 then (if x2 < x1 then J_X10_combine_147 N 0 σ else J_X10_combine_147 N 1 σ) else J_X10_combine_152 N x1 x2 σ
set_option maxRecDepth 20000 in
set_option maxHeartbeats 4000000 in
theorem T_X10_combine (xs : Nat → Int32) (L : Nat) (N : Nat) (x0 : Int32) (x1 : Int32) (x2 : Int32) (σ : aSt) (q : Int32 × aSt) (h : F_X10_combine N x0 x1 x2 σ = some q) (hG : Gr σ) : Cal xs L 92 [.int x0, .int x1, .int x2] σ (wI q.1) q.2 ∧ Gr q.2 := by
  have h : (if x0 = 5 then (some (x1 &&& x2, σ)) else if x0 = 17 then (some (x1 + x2, σ)) else if x0 = 18 then (some (x1 - x2, σ)) else if x0 = 19 then (some (x1 * x2, σ)) else if x0 = 20 then (if x1 ≠ x2 then J_X10_combine_114 N 0 σ else J_X10_combine_114 N 1 σ) else if x0 = 21 then (if x1 = x2 then J_X10_combine_125 N 0 σ else J_X10_combine_125 N 1 σ) else if x0 = 22 then (if x2 ≤ x1 then J_X10_combine_136 N 0 σ else J_X10_combine_136 N 1 σ) else if x0 = 23 then (if x2 < x1 then J_X10_combine_147 N 0 σ else J_X10_combine_147 N 1 σ) else J_X10_combine_152 N x1 x2 σ) = some q := h
  show Ev xs L 92 0 [.int x0, .int x1, .int x2] [] σ (wI q.1) q.2 ∧ Gr q.2
  refine ev_a (fun he => ev_iload rfl rfl he) ?_
  by_cases hz1 : x0 = 5
  · rw [if_pos hz1] at h
    refine ev_a (fun he => ev_tab (t := 148) rfl (by rw [hz1]; decide) he) ?_
    refine ev_a (fun he => ev_iload rfl rfl he) ?_
    refine ev_a (fun he => ev_iload rfl rfl he) ?_
    refine ev_a (fun he => ev_bin (z := x1 &&& x2) rfl rfl he) ?_
    cases h
    exact ⟨ev_retI rfl, hG⟩
  · rw [if_neg hz1] at h
    by_cases hz2 : x0 = 17
    · rw [if_pos hz2] at h
      refine ev_a (fun he => ev_tab (t := 92) rfl (by rw [hz2]; decide) he) ?_
      refine ev_a (fun he => ev_iload rfl rfl he) ?_
      refine ev_a (fun he => ev_iload rfl rfl he) ?_
      refine ev_a (fun he => ev_bin (z := x1 + x2) rfl rfl he) ?_
      cases h
      exact ⟨ev_retI rfl, hG⟩
    · rw [if_neg hz2] at h
      by_cases hz3 : x0 = 18
      · rw [if_pos hz3] at h
        refine ev_a (fun he => ev_tab (t := 96) rfl (by rw [hz3]; decide) he) ?_
        refine ev_a (fun he => ev_iload rfl rfl he) ?_
        refine ev_a (fun he => ev_iload rfl rfl he) ?_
        refine ev_a (fun he => ev_bin (z := x1 - x2) rfl rfl he) ?_
        cases h
        exact ⟨ev_retI rfl, hG⟩
      · rw [if_neg hz3] at h
        by_cases hz4 : x0 = 19
        · rw [if_pos hz4] at h
          refine ev_a (fun he => ev_tab (t := 100) rfl (by rw [hz4]; decide) he) ?_
          refine ev_a (fun he => ev_iload rfl rfl he) ?_
          refine ev_a (fun he => ev_iload rfl rfl he) ?_
          refine ev_a (fun he => ev_bin (z := x1 * x2) rfl rfl he) ?_
          cases h
          exact ⟨ev_retI rfl, hG⟩
        · rw [if_neg hz4] at h
          by_cases hz5 : x0 = 20
          · rw [if_pos hz5] at h
            refine ev_a (fun he => ev_tab (t := 104) rfl (by rw [hz5]; decide) he) ?_
            refine ev_a (fun he => ev_iload rfl rfl he) ?_
            refine ev_a (fun he => ev_iload rfl rfl he) ?_
            refine ev_b (c := x1 ≠ x2) (fun ht hf => ev_cne rfl ht hf) (fun hc6 => ?_) (fun hc6 => ?_)
            · rw [if_pos hc6] at h
              refine ev_a (fun he => ev_push rfl he) ?_
              exact TJ_X10_combine_114 xs L N 0 (.int x0) (.int x1) (.int x2) σ q h hG
            · rw [if_neg hc6] at h
              refine ev_a (fun he => ev_push rfl he) ?_
              refine ev_a (fun he => ev_goto rfl he) ?_
              exact TJ_X10_combine_114 xs L N 1 (.int x0) (.int x1) (.int x2) σ q h hG
          · rw [if_neg hz5] at h
            by_cases hz7 : x0 = 21
            · rw [if_pos hz7] at h
              refine ev_a (fun he => ev_tab (t := 115) rfl (by rw [hz7]; decide) he) ?_
              refine ev_a (fun he => ev_iload rfl rfl he) ?_
              refine ev_a (fun he => ev_iload rfl rfl he) ?_
              refine ev_b (c := x1 = x2) (fun ht hf => ev_ceq rfl ht hf) (fun hc8 => ?_) (fun hc8 => ?_)
              · rw [if_pos hc8] at h
                refine ev_a (fun he => ev_push rfl he) ?_
                exact TJ_X10_combine_125 xs L N 0 (.int x0) (.int x1) (.int x2) σ q h hG
              · rw [if_neg hc8] at h
                refine ev_a (fun he => ev_push rfl he) ?_
                refine ev_a (fun he => ev_goto rfl he) ?_
                exact TJ_X10_combine_125 xs L N 1 (.int x0) (.int x1) (.int x2) σ q h hG
            · rw [if_neg hz7] at h
              by_cases hz9 : x0 = 22
              · rw [if_pos hz9] at h
                refine ev_a (fun he => ev_tab (t := 126) rfl (by rw [hz9]; decide) he) ?_
                refine ev_a (fun he => ev_iload rfl rfl he) ?_
                refine ev_a (fun he => ev_iload rfl rfl he) ?_
                refine ev_b (c := x2 ≤ x1) (fun ht hf => ev_cge rfl ht hf) (fun hc10 => ?_) (fun hc10 => ?_)
                · rw [if_pos hc10] at h
                  refine ev_a (fun he => ev_push rfl he) ?_
                  exact TJ_X10_combine_136 xs L N 0 (.int x0) (.int x1) (.int x2) σ q h hG
                · rw [if_neg hc10] at h
                  refine ev_a (fun he => ev_push rfl he) ?_
                  refine ev_a (fun he => ev_goto rfl he) ?_
                  exact TJ_X10_combine_136 xs L N 1 (.int x0) (.int x1) (.int x2) σ q h hG
              · rw [if_neg hz9] at h
                by_cases hz11 : x0 = 23
                · rw [if_pos hz11] at h
                  refine ev_a (fun he => ev_tab (t := 137) rfl (by rw [hz11]; decide) he) ?_
                  refine ev_a (fun he => ev_iload rfl rfl he) ?_
                  refine ev_a (fun he => ev_iload rfl rfl he) ?_
                  refine ev_b (c := x2 < x1) (fun ht hf => ev_cgt rfl ht hf) (fun hc12 => ?_) (fun hc12 => ?_)
                  · rw [if_pos hc12] at h
                    refine ev_a (fun he => ev_push rfl he) ?_
                    exact TJ_X10_combine_147 xs L N 0 (.int x0) (.int x1) (.int x2) σ q h hG
                  · rw [if_neg hc12] at h
                    refine ev_a (fun he => ev_push rfl he) ?_
                    refine ev_a (fun he => ev_goto rfl he) ?_
                    exact TJ_X10_combine_147 xs L N 1 (.int x0) (.int x1) (.int x2) σ q h hG
                · rw [if_neg hz11] at h
                  refine ev_a (fun he => ev_tab (t := 152) rfl (aSwt_d [5, 17, 18, 19, 20, 21, 22, 23] rfl (by decide) (List.forall_mem_cons.mpr ⟨hz1, (List.forall_mem_cons.mpr ⟨hz2, (List.forall_mem_cons.mpr ⟨hz3, (List.forall_mem_cons.mpr ⟨hz4, (List.forall_mem_cons.mpr ⟨hz5, (List.forall_mem_cons.mpr ⟨hz7, (List.forall_mem_cons.mpr ⟨hz9, (List.forall_mem_cons.mpr ⟨hz11, (fun _ hm => absurd hm List.not_mem_nil)⟩)⟩)⟩)⟩)⟩)⟩)⟩)⟩)) he) ?_
                  exact TJ_X10_combine_152 xs L N x1 x2 (.int x0) σ q h hG
def J_X10_compute_111 (N : Nat) (x0 : Nat) (σ : aSt) : Option (Int32 × aSt) := some (aI σ (x0 + 6) 0, σ)
set_option maxRecDepth 20000 in
set_option maxHeartbeats 4000000 in
theorem TJ_X10_compute_111 (xs : Nat → Int32) (L : Nat) (N : Nat) (x0 : Nat) (d1 : Value) (d2 : Value) (d3 : Value) (d4 : Value) (d5 : Value) (d6 : Value) (σ : aSt) (q : Int32 × aSt) (h : J_X10_compute_111 N x0 σ = some q) (hG : Gr σ) (hx0 : isTx x0) : Ev xs L 90 111 [.ref x0, d1, d2, d3, d4, d5, d6] [] σ (wI q.1) q.2 ∧ Gr q.2 := by
  have h : (some (aI σ (x0 + 6) 0, σ)) = some q := h
  refine ev_a (fun he => ev_aload rfl rfl he) ?_
  refine ev_a (fun he => ev_getR rfl (gr_ob (n := 8) hG (sh_Tx0 hx0)) (gr_p hG (gf_Tx7 hx0)) he) ?_
  refine ev_a (fun he => ev_push rfl he) ?_
  refine ev_a (fun he => ev_aldI (k := 0) rfl (gr_ar hG (sh_Tx6 hx0)) (by decide) (by decide) he) ?_
  cases h
  exact ⟨ev_retI rfl, hG⟩
def J_X10_compute_105 (N : Nat) (k6 : Nat → Int32 → Int32 → Int32 → aSt → Option (Int32 × aSt)) (x0 : Nat) (x2 : Int32) (x4 : Int32) (x5 : Int32) (σ : aSt) : Option (Int32 × aSt) := k6 x0 x2 x4 (x5 + 1) σ
set_option maxRecDepth 20000 in
set_option maxHeartbeats 4000000 in
theorem TJ_X10_compute_105 (xs : Nat → Int32) (L : Nat) (N : Nat) (k6 : Nat → Int32 → Int32 → Int32 → aSt → Option (Int32 × aSt)) (hk6 : ∀ (x0 : Nat) (x2 : Int32) (x4 : Int32) (x5 : Int32) (d1 : Value) (d6 : Value) (σ : aSt) (q : Int32 × aSt), k6 x0 x2 x4 x5 σ = some q → Gr σ → isTx x0 → Ev xs L 90 6 [.ref x0, d1, .int x2, .ref 22, .int x4, .int x5, d6] [] σ (wI q.1) q.2 ∧ Gr q.2) (x0 : Nat) (x2 : Int32) (x4 : Int32) (x5 : Int32) (d1 : Value) (d6 : Value) (σ : aSt) (q : Int32 × aSt) (h : J_X10_compute_105 N k6 x0 x2 x4 x5 σ = some q) (hG : Gr σ) (hx0 : isTx x0) : Ev xs L 90 105 [.ref x0, d1, .int x2, .ref 22, .int x4, .int x5, d6] [] σ (wI q.1) q.2 ∧ Gr q.2 := by
  have h : (k6 x0 x2 x4 (x5 + 1) σ) = some q := h
  refine ev_a (fun he => ev_iinc (ls' := [.ref x0, d1, .int x2, .ref 22, .int x4, .int (x5 + 1), d6]) rfl rfl rfl (Nat.le_of_ble_eq_true rfl) rfl he) ?_
  refine ev_a (fun he => ev_goto rfl he) ?_
  exact hk6 x0 x2 x4 (x5 + 1) (d1) (d6) σ q h hG hx0
def H_X10_compute_6 (N : Nat) : Nat → Nat → Int32 → Int32 → Int32 → aSt → Option (Int32 × aSt)
  | 0, _, _, _, _, _ => none
  | n + 1, x0, x2, x4, x5, σ => if x2 ≤ x5 then J_X10_compute_111 N x0 σ else if (aI σ x0 6) ≤ x5 then J_X10_compute_111 N x0 σ else cO (¬ (x5 < 0 ∨ 400 ≤ x5.toNatClampNeg)) (oB (F_X10_isOperand N (aI σ (x0 + 5) x5.toNatClampNeg) σ) fun y5 σ6 => if y5 = 0 then if x4 < 2 then J_X10_compute_105 N (H_X10_compute_6 N n) x0 x2 x4 x5 σ6 else cO (¬ ((x4 - 2) < 0 ∨ 32 ≤ (x4 - 2).toNatClampNeg)) (cO (¬ ((x4 - 1) < 0 ∨ 32 ≤ (x4 - 1).toNatClampNeg)) (oB (F_X10_combine N (aI σ (x0 + 5) x5.toNatClampNeg) (aI σ6 (x0 + 6) (x4 - 2).toNatClampNeg) (aI σ6 (x0 + 6) (x4 - 1).toNatClampNeg) σ6) fun y14 σ15 => cO (¬ ((x4 - 2) < 0 ∨ 32 ≤ (x4 - 2).toNatClampNeg)) (lt (aWI σ15 (x0 + 6) (x4 - 2).toNatClampNeg y14) fun σ20 => J_X10_compute_105 N (H_X10_compute_6 N n) x0 x2 (x4 + (-1)) x5 σ20))) else if 32 ≤ x4 then J_X10_compute_105 N (H_X10_compute_6 N n) x0 x2 x4 x5 σ6 else oB (F_X10_worth N (aI σ (x0 + 5) x5.toNatClampNeg) σ6) fun y24 σ25 => cO (¬ (x4 < 0 ∨ 32 ≤ x4.toNatClampNeg)) (lt (aWI σ25 (x0 + 6) x4.toNatClampNeg y24) fun σ30 => J_X10_compute_105 N (H_X10_compute_6 N n) x0 x2 (x4 + 1) x5 σ30))
set_option maxRecDepth 20000 in
set_option maxHeartbeats 4000000 in
theorem TH_X10_compute_6 (xs : Nat → Int32) (L : Nat) (N : Nat) : ∀ (n : Nat) (x0 : Nat) (x2 : Int32) (x4 : Int32) (x5 : Int32) (d1 : Value) (d6 : Value) (σ : aSt) (q : Int32 × aSt), H_X10_compute_6 N n x0 x2 x4 x5 σ = some q → Gr σ → isTx x0 → Ev xs L 90 6 [.ref x0, d1, .int x2, .ref 22, .int x4, .int x5, d6] [] σ (wI q.1) q.2 ∧ Gr q.2 := by
  intro n
  induction n with
  | zero =>
    intro x0 x2 x4 x5 d1 d6 σ q h hG hx0
    exact absurd (show (none : Option (Int32 × aSt)) = some q from h) (by simp)
  | succ n ih =>
    intro x0 x2 x4 x5 d1 d6 σ q h hG hx0
    have hk6 : ∀ (x0 : Nat) (x2 : Int32) (x4 : Int32) (x5 : Int32) (d1 : Value) (d6 : Value) (σ : aSt) (q : Int32 × aSt), H_X10_compute_6 N n x0 x2 x4 x5 σ = some q → Gr σ → isTx x0 → Ev xs L 90 6 [.ref x0, d1, .int x2, .ref 22, .int x4, .int x5, d6] [] σ (wI q.1) q.2 ∧ Gr q.2 := ih
    have h : (if x2 ≤ x5 then J_X10_compute_111 N x0 σ else if (aI σ x0 6) ≤ x5 then J_X10_compute_111 N x0 σ else cO (¬ (x5 < 0 ∨ 400 ≤ x5.toNatClampNeg)) (oB (F_X10_isOperand N (aI σ (x0 + 5) x5.toNatClampNeg) σ) fun y5 σ6 => if y5 = 0 then if x4 < 2 then J_X10_compute_105 N (H_X10_compute_6 N n) x0 x2 x4 x5 σ6 else cO (¬ ((x4 - 2) < 0 ∨ 32 ≤ (x4 - 2).toNatClampNeg)) (cO (¬ ((x4 - 1) < 0 ∨ 32 ≤ (x4 - 1).toNatClampNeg)) (oB (F_X10_combine N (aI σ (x0 + 5) x5.toNatClampNeg) (aI σ6 (x0 + 6) (x4 - 2).toNatClampNeg) (aI σ6 (x0 + 6) (x4 - 1).toNatClampNeg) σ6) fun y14 σ15 => cO (¬ ((x4 - 2) < 0 ∨ 32 ≤ (x4 - 2).toNatClampNeg)) (lt (aWI σ15 (x0 + 6) (x4 - 2).toNatClampNeg y14) fun σ20 => J_X10_compute_105 N (H_X10_compute_6 N n) x0 x2 (x4 + (-1)) x5 σ20))) else if 32 ≤ x4 then J_X10_compute_105 N (H_X10_compute_6 N n) x0 x2 x4 x5 σ6 else oB (F_X10_worth N (aI σ (x0 + 5) x5.toNatClampNeg) σ6) fun y24 σ25 => cO (¬ (x4 < 0 ∨ 32 ≤ x4.toNatClampNeg)) (lt (aWI σ25 (x0 + 6) x4.toNatClampNeg y24) fun σ30 => J_X10_compute_105 N (H_X10_compute_6 N n) x0 x2 (x4 + 1) x5 σ30))) = some q := h
    refine ev_a (fun he => ev_iload rfl rfl he) ?_
    refine ev_a (fun he => ev_iload rfl rfl he) ?_
    refine ev_b (c := x2 ≤ x5) (fun ht hf => ev_cge rfl ht hf) (fun hc2 => ?_) (fun hc2 => ?_)
    · rw [if_pos hc2] at h
      exact TJ_X10_compute_111 xs L N x0 (d1) (.int x2) (.ref 22) (.int x4) (.int x5) (d6) σ q h hG hx0
    · rw [if_neg hc2] at h
      refine ev_a (fun he => ev_iload rfl rfl he) ?_
      refine ev_a (fun he => ev_aload rfl rfl he) ?_
      refine ev_a (fun he => ev_getI rfl (gr_ob (n := 8) hG (sh_Tx0 hx0)) he) ?_
      refine ev_b (c := (aI σ x0 6) ≤ x5) (fun ht hf => ev_cge rfl ht hf) (fun hc3 => ?_) (fun hc3 => ?_)
      · rw [if_pos hc3] at h
        exact TJ_X10_compute_111 xs L N x0 (d1) (.int x2) (.ref 22) (.int x4) (.int x5) (d6) σ q h hG hx0
      · rw [if_neg hc3] at h
        refine ev_a (fun he => ev_aload rfl rfl he) ?_
        refine ev_a (fun he => ev_getR rfl (gr_ob (n := 8) hG (sh_Tx0 hx0)) (gr_p hG (gf_Tx5 hx0)) he) ?_
        refine ev_a (fun he => ev_iload rfl rfl he) ?_
        obtain ⟨hc4, h⟩ := cO_inv h
        refine ev_a (fun he => ev_aldI (k := x5.toNatClampNeg) rfl (gr_ar hG (sh_Tx5 hx0)) hc4 rfl he) ?_
        refine ev_a (fun he => ev_istore (ls' := [.ref x0, d1, .int x2, .ref 22, .int x4, .int x5, .int (aI σ (x0 + 5) x5.toNatClampNeg)]) rfl (Nat.le_of_ble_eq_true rfl) rfl he) ?_
        refine ev_a (fun he => ev_iload rfl rfl he) ?_
        obtain ⟨y5, σ6, h7, h⟩ := oB_inv h
        obtain ⟨c8, hG9⟩ := T_X10_isOperand xs L N (aI σ (x0 + 5) x5.toNatClampNeg) σ (y5, σ6) h7 hG
        refine ev_a (fun he => ev_callS (as := [.int (aI σ (x0 + 5) x5.toNatClampNeg)]) rfl rfl rfl rfl (Nat.le_of_ble_eq_true rfl) (Nat.le_of_ble_eq_true rfl) c8 he) ?_
        refine ev_b (c := y5 = 0) (fun ht hf => ev_ifeq rfl ht hf) (fun hc10 => ?_) (fun hc10 => ?_)
        · rw [if_pos hc10] at h
          refine ev_a (fun he => ev_iload rfl rfl he) ?_
          refine ev_a (fun he => ev_push rfl he) ?_
          refine ev_b (c := x4 < 2) (fun ht hf => ev_clt rfl ht hf) (fun hc11 => ?_) (fun hc11 => ?_)
          · rw [if_pos hc11] at h
            exact TJ_X10_compute_105 xs L N (H_X10_compute_6 N n) hk6 x0 x2 x4 x5 (d1) (.int (aI σ (x0 + 5) x5.toNatClampNeg)) σ6 q h hG9 hx0
          · rw [if_neg hc11] at h
            refine ev_a (fun he => ev_aload rfl rfl he) ?_
            refine ev_a (fun he => ev_getR rfl (gr_ob (n := 8) hG9 (sh_Tx0 hx0)) (gr_p hG9 (gf_Tx7 hx0)) he) ?_
            refine ev_a (fun he => ev_iload rfl rfl he) ?_
            refine ev_a (fun he => ev_push rfl he) ?_
            refine ev_a (fun he => ev_bin (z := x4 - 2) rfl rfl he) ?_
            refine ev_a (fun he => ev_iload rfl rfl he) ?_
            refine ev_a (fun he => ev_aload rfl rfl he) ?_
            refine ev_a (fun he => ev_getR rfl (gr_ob (n := 8) hG9 (sh_Tx0 hx0)) (gr_p hG9 (gf_Tx7 hx0)) he) ?_
            refine ev_a (fun he => ev_iload rfl rfl he) ?_
            refine ev_a (fun he => ev_push rfl he) ?_
            refine ev_a (fun he => ev_bin (z := x4 - 2) rfl rfl he) ?_
            obtain ⟨hc12, h⟩ := cO_inv h
            refine ev_a (fun he => ev_aldI (k := (x4 - 2).toNatClampNeg) rfl (gr_ar hG9 (sh_Tx6 hx0)) hc12 rfl he) ?_
            refine ev_a (fun he => ev_aload rfl rfl he) ?_
            refine ev_a (fun he => ev_getR rfl (gr_ob (n := 8) hG9 (sh_Tx0 hx0)) (gr_p hG9 (gf_Tx7 hx0)) he) ?_
            refine ev_a (fun he => ev_iload rfl rfl he) ?_
            refine ev_a (fun he => ev_push rfl he) ?_
            refine ev_a (fun he => ev_bin (z := x4 - 1) rfl rfl he) ?_
            obtain ⟨hc13, h⟩ := cO_inv h
            refine ev_a (fun he => ev_aldI (k := (x4 - 1).toNatClampNeg) rfl (gr_ar hG9 (sh_Tx6 hx0)) hc13 rfl he) ?_
            obtain ⟨y14, σ15, h16, h⟩ := oB_inv h
            obtain ⟨c17, hG18⟩ := T_X10_combine xs L N (aI σ (x0 + 5) x5.toNatClampNeg) (aI σ6 (x0 + 6) (x4 - 2).toNatClampNeg) (aI σ6 (x0 + 6) (x4 - 1).toNatClampNeg) σ6 (y14, σ15) h16 hG9
            refine ev_a (fun he => ev_callS (as := [.int (aI σ (x0 + 5) x5.toNatClampNeg), .int (aI σ6 (x0 + 6) (x4 - 2).toNatClampNeg), .int (aI σ6 (x0 + 6) (x4 - 1).toNatClampNeg)]) rfl rfl rfl rfl (Nat.le_of_ble_eq_true rfl) (Nat.le_of_ble_eq_true rfl) c17 he) ?_
            obtain ⟨hc19, h⟩ := cO_inv h
            obtain ⟨σ20, e21, h⟩ := lt_inv h
            have hG22 : Gr σ20 := gr_wi e21 hG18
            refine ev_a (fun he => ev_astI (k := (x4 - 2).toNatClampNeg) rfl (gr_ar hG18 (sh_Tx6 hx0)) hc19 rfl rfl e21 he) ?_
            refine ev_a (fun he => ev_iinc (ls' := [.ref x0, d1, .int x2, .ref 22, .int (x4 + (-1)), .int x5, .int (aI σ (x0 + 5) x5.toNatClampNeg)]) rfl rfl rfl (Nat.le_of_ble_eq_true rfl) rfl he) ?_
            exact TJ_X10_compute_105 xs L N (H_X10_compute_6 N n) hk6 x0 x2 (x4 + (-1)) x5 (d1) (.int (aI σ (x0 + 5) x5.toNatClampNeg)) σ20 q h hG22 hx0
        · rw [if_neg hc10] at h
          refine ev_a (fun he => ev_iload rfl rfl he) ?_
          refine ev_a (fun he => ev_push rfl he) ?_
          refine ev_b (c := 32 ≤ x4) (fun ht hf => ev_cge rfl ht hf) (fun hc23 => ?_) (fun hc23 => ?_)
          · rw [if_pos hc23] at h
            exact TJ_X10_compute_105 xs L N (H_X10_compute_6 N n) hk6 x0 x2 x4 x5 (d1) (.int (aI σ (x0 + 5) x5.toNatClampNeg)) σ6 q h hG9 hx0
          · rw [if_neg hc23] at h
            refine ev_a (fun he => ev_aload rfl rfl he) ?_
            refine ev_a (fun he => ev_getR rfl (gr_ob (n := 8) hG9 (sh_Tx0 hx0)) (gr_p hG9 (gf_Tx7 hx0)) he) ?_
            refine ev_a (fun he => ev_iload rfl rfl he) ?_
            refine ev_a (fun he => ev_iload rfl rfl he) ?_
            refine ev_a (fun he => ev_aload rfl rfl he) ?_
            obtain ⟨y24, σ25, h26, h⟩ := oB_inv h
            obtain ⟨c27, hG28⟩ := T_X10_worth xs L N (aI σ (x0 + 5) x5.toNatClampNeg) σ6 (y24, σ25) h26 hG9
            refine ev_a (fun he => ev_callS (as := [.int (aI σ (x0 + 5) x5.toNatClampNeg), .ref 22]) rfl rfl rfl rfl (Nat.le_of_ble_eq_true rfl) (Nat.le_of_ble_eq_true rfl) c27 he) ?_
            obtain ⟨hc29, h⟩ := cO_inv h
            obtain ⟨σ30, e31, h⟩ := lt_inv h
            have hG32 : Gr σ30 := gr_wi e31 hG28
            refine ev_a (fun he => ev_astI (k := x4.toNatClampNeg) rfl (gr_ar hG28 (sh_Tx6 hx0)) hc29 rfl rfl e31 he) ?_
            refine ev_a (fun he => ev_iinc (ls' := [.ref x0, d1, .int x2, .ref 22, .int (x4 + 1), .int x5, .int (aI σ (x0 + 5) x5.toNatClampNeg)]) rfl rfl rfl (Nat.le_of_ble_eq_true rfl) rfl he) ?_
            refine ev_a (fun he => ev_goto rfl he) ?_
            exact TJ_X10_compute_105 xs L N (H_X10_compute_6 N n) hk6 x0 x2 (x4 + 1) x5 (d1) (.int (aI σ (x0 + 5) x5.toNatClampNeg)) σ30 q h hG32 hx0
def F_X10_compute (N : Nat) (x0 : Nat) (x1 : Int32) (x2 : Int32) (σ : aSt) : Option (Int32 × aSt) := H_X10_compute_6 N N x0 x2 0 x1 σ
set_option maxRecDepth 20000 in
set_option maxHeartbeats 4000000 in
theorem T_X10_compute (xs : Nat → Int32) (L : Nat) (N : Nat) (x0 : Nat) (x1 : Int32) (x2 : Int32) (σ : aSt) (q : Int32 × aSt) (h : F_X10_compute N x0 x1 x2 σ = some q) (hG : Gr σ) (hx0 : isTx x0) : Cal xs L 90 [.ref x0, .int x1, .int x2, .ref 22] σ (wI q.1) q.2 ∧ Gr q.2 := by
  have h : (H_X10_compute_6 N N x0 x2 0 x1 σ) = some q := h
  show Ev xs L 90 0 [.ref x0, .int x1, .int x2, .ref 22, aU, aU, aU] [] σ (wI q.1) q.2 ∧ Gr q.2
  refine ev_a (fun he => ev_push rfl he) ?_
  refine ev_a (fun he => ev_istore (ls' := [.ref x0, .int x1, .int x2, .ref 22, .int 0, aU, aU]) rfl (Nat.le_of_ble_eq_true rfl) rfl he) ?_
  refine ev_a (fun he => ev_iload rfl rfl he) ?_
  refine ev_a (fun he => ev_istore (ls' := [.ref x0, .int x1, .int x2, .ref 22, .int 0, .int x1, aU]) rfl (Nat.le_of_ble_eq_true rfl) rfl he) ?_
  exact TH_X10_compute_6 xs L N N x0 x2 0 x1 (.int x1) (aU) σ q h hG hx0
