def J_X12_lot_66 (N : Nat) (σ : aSt) : Option (Int32 × aSt) := some ((-1), σ)
set_option maxRecDepth 20000 in
set_option maxHeartbeats 4000000 in
theorem TJ_X12_lot_66 (xs : Nat → Int32) (L : Nat) (N : Nat) (d0 : Value) (d1 : Value) (d2 : Value) (d3 : Value) (d4 : Value) (d5 : Value) (σ : aSt) (q : Int32 × aSt) (h : J_X12_lot_66 N  σ = some q) (hG : Gr σ) : Ev xs L 143 66 [d0, d1, d2, d3, d4, d5] [] σ (wI q.1) q.2 ∧ Gr q.2 := by
  have h : (some ((-1), σ)) = some q := h
  refine ev_a (fun he => ev_push rfl he) ?_
  cases h
  exact ⟨ev_retI rfl, hG⟩
def F_X12_lot (N : Nat) (x1 : Int32) (x2 : Int32) (x3 : Int32) (x4 : Int32) (x5 : Int32) (σ : aSt) : Option (Int32 × aSt) := if (aI σ 235 37) = 24 then J_X12_lot_66 N σ else if (aI σ 235 53) ≠ 0 then J_X12_lot_66 N σ else if x1 < 0 then J_X12_lot_66 N σ else if 5 < x1 then J_X12_lot_66 N σ else oB (F_X12_isKind N x2 σ) fun y5 σ6 => if y5 = 0 then J_X12_lot_66 N σ6 else if x3 < 0 then J_X12_lot_66 N σ6 else if 3 < x3 then J_X12_lot_66 N σ6 else if x4 < 1 then J_X12_lot_66 N σ6 else if 20 < x4 then J_X12_lot_66 N σ6 else if x5 < 0 then J_X12_lot_66 N σ6 else if x5 ≤ 9 then cO (¬ ((aI σ6 235 37) < 0 ∨ 24 ≤ (aI σ6 235 37).toNatClampNeg)) (lt (aWI σ6 259 (aI σ6 235 37).toNatClampNeg x1) fun σ18 => cO (¬ ((aI σ18 235 37) < 0 ∨ 24 ≤ (aI σ18 235 37).toNatClampNeg)) (lt (aWI σ18 260 (aI σ18 235 37).toNatClampNeg x2) fun σ22 => cO (¬ ((aI σ22 235 37) < 0 ∨ 24 ≤ (aI σ22 235 37).toNatClampNeg)) (lt (aWI σ22 261 (aI σ22 235 37).toNatClampNeg x3) fun σ26 => cO (¬ ((aI σ26 235 37) < 0 ∨ 24 ≤ (aI σ26 235 37).toNatClampNeg)) (lt (aWI σ26 262 (aI σ26 235 37).toNatClampNeg x4) fun σ30 => cO (¬ ((aI σ30 235 37) < 0 ∨ 24 ≤ (aI σ30 235 37).toNatClampNeg)) (lt (aWI σ30 263 (aI σ30 235 37).toNatClampNeg x5) fun σ34 => lt (aWI σ34 235 37 ((aI σ34 235 37) + 1)) fun σ37 => some ((aI σ37 235 37) - 1, σ37)))))) else J_X12_lot_66 N σ6
set_option maxRecDepth 20000 in
set_option maxHeartbeats 4000000 in
theorem T_X12_lot (xs : Nat → Int32) (L : Nat) (N : Nat) (x1 : Int32) (x2 : Int32) (x3 : Int32) (x4 : Int32) (x5 : Int32) (σ : aSt) (q : Int32 × aSt) (h : F_X12_lot N x1 x2 x3 x4 x5 σ = some q) (hG : Gr σ) : Cal xs L 143 [.ref 235, .int x1, .int x2, .int x3, .int x4, .int x5] σ (wI q.1) q.2 ∧ Gr q.2 := by
  have h : (if (aI σ 235 37) = 24 then J_X12_lot_66 N σ else if (aI σ 235 53) ≠ 0 then J_X12_lot_66 N σ else if x1 < 0 then J_X12_lot_66 N σ else if 5 < x1 then J_X12_lot_66 N σ else oB (F_X12_isKind N x2 σ) fun y5 σ6 => if y5 = 0 then J_X12_lot_66 N σ6 else if x3 < 0 then J_X12_lot_66 N σ6 else if 3 < x3 then J_X12_lot_66 N σ6 else if x4 < 1 then J_X12_lot_66 N σ6 else if 20 < x4 then J_X12_lot_66 N σ6 else if x5 < 0 then J_X12_lot_66 N σ6 else if x5 ≤ 9 then cO (¬ ((aI σ6 235 37) < 0 ∨ 24 ≤ (aI σ6 235 37).toNatClampNeg)) (lt (aWI σ6 259 (aI σ6 235 37).toNatClampNeg x1) fun σ18 => cO (¬ ((aI σ18 235 37) < 0 ∨ 24 ≤ (aI σ18 235 37).toNatClampNeg)) (lt (aWI σ18 260 (aI σ18 235 37).toNatClampNeg x2) fun σ22 => cO (¬ ((aI σ22 235 37) < 0 ∨ 24 ≤ (aI σ22 235 37).toNatClampNeg)) (lt (aWI σ22 261 (aI σ22 235 37).toNatClampNeg x3) fun σ26 => cO (¬ ((aI σ26 235 37) < 0 ∨ 24 ≤ (aI σ26 235 37).toNatClampNeg)) (lt (aWI σ26 262 (aI σ26 235 37).toNatClampNeg x4) fun σ30 => cO (¬ ((aI σ30 235 37) < 0 ∨ 24 ≤ (aI σ30 235 37).toNatClampNeg)) (lt (aWI σ30 263 (aI σ30 235 37).toNatClampNeg x5) fun σ34 => lt (aWI σ34 235 37 ((aI σ34 235 37) + 1)) fun σ37 => some ((aI σ37 235 37) - 1, σ37)))))) else J_X12_lot_66 N σ6) = some q := h
  show Ev xs L 143 0 [.ref 235, .int x1, .int x2, .int x3, .int x4, .int x5] [] σ (wI q.1) q.2 ∧ Gr q.2
  refine ev_a (fun he => ev_aload rfl rfl he) ?_
  refine ev_a (fun he => ev_getI rfl (gr_ob (n := 80) hG rfl) he) ?_
  refine ev_a (fun he => ev_push rfl he) ?_
  refine ev_b (c := (aI σ 235 37) = 24) (fun ht hf => ev_ceq rfl ht hf) (fun hc1 => ?_) (fun hc1 => ?_)
  · rw [if_pos hc1] at h
    exact TJ_X12_lot_66 xs L N (.ref 235) (.int x1) (.int x2) (.int x3) (.int x4) (.int x5) σ q h hG
  · rw [if_neg hc1] at h
    refine ev_a (fun he => ev_aload rfl rfl he) ?_
    refine ev_a (fun he => ev_getI rfl (gr_ob (n := 80) hG rfl) he) ?_
    refine ev_b (c := (aI σ 235 53) ≠ 0) (fun ht hf => ev_ifne rfl ht hf) (fun hc2 => ?_) (fun hc2 => ?_)
    · rw [if_pos hc2] at h
      exact TJ_X12_lot_66 xs L N (.ref 235) (.int x1) (.int x2) (.int x3) (.int x4) (.int x5) σ q h hG
    · rw [if_neg hc2] at h
      refine ev_a (fun he => ev_iload rfl rfl he) ?_
      refine ev_b (c := x1 < 0) (fun ht hf => ev_iflt rfl ht hf) (fun hc3 => ?_) (fun hc3 => ?_)
      · rw [if_pos hc3] at h
        exact TJ_X12_lot_66 xs L N (.ref 235) (.int x1) (.int x2) (.int x3) (.int x4) (.int x5) σ q h hG
      · rw [if_neg hc3] at h
        refine ev_a (fun he => ev_iload rfl rfl he) ?_
        refine ev_a (fun he => ev_push rfl he) ?_
        refine ev_b (c := 5 < x1) (fun ht hf => ev_cgt rfl ht hf) (fun hc4 => ?_) (fun hc4 => ?_)
        · rw [if_pos hc4] at h
          exact TJ_X12_lot_66 xs L N (.ref 235) (.int x1) (.int x2) (.int x3) (.int x4) (.int x5) σ q h hG
        · rw [if_neg hc4] at h
          refine ev_a (fun he => ev_iload rfl rfl he) ?_
          obtain ⟨y5, σ6, h7, h⟩ := oB_inv h
          obtain ⟨c8, hG9⟩ := T_X12_isKind xs L N x2 σ (y5, σ6) h7 hG
          refine ev_a (fun he => ev_callS (as := [.int x2]) rfl rfl rfl rfl (Nat.le_of_ble_eq_true rfl) (Nat.le_of_ble_eq_true rfl) c8 he) ?_
          refine ev_b (c := y5 = 0) (fun ht hf => ev_ifeq rfl ht hf) (fun hc10 => ?_) (fun hc10 => ?_)
          · rw [if_pos hc10] at h
            exact TJ_X12_lot_66 xs L N (.ref 235) (.int x1) (.int x2) (.int x3) (.int x4) (.int x5) σ6 q h hG9
          · rw [if_neg hc10] at h
            refine ev_a (fun he => ev_iload rfl rfl he) ?_
            refine ev_b (c := x3 < 0) (fun ht hf => ev_iflt rfl ht hf) (fun hc11 => ?_) (fun hc11 => ?_)
            · rw [if_pos hc11] at h
              exact TJ_X12_lot_66 xs L N (.ref 235) (.int x1) (.int x2) (.int x3) (.int x4) (.int x5) σ6 q h hG9
            · rw [if_neg hc11] at h
              refine ev_a (fun he => ev_iload rfl rfl he) ?_
              refine ev_a (fun he => ev_push rfl he) ?_
              refine ev_b (c := 3 < x3) (fun ht hf => ev_cgt rfl ht hf) (fun hc12 => ?_) (fun hc12 => ?_)
              · rw [if_pos hc12] at h
                exact TJ_X12_lot_66 xs L N (.ref 235) (.int x1) (.int x2) (.int x3) (.int x4) (.int x5) σ6 q h hG9
              · rw [if_neg hc12] at h
                refine ev_a (fun he => ev_iload rfl rfl he) ?_
                refine ev_a (fun he => ev_push rfl he) ?_
                refine ev_b (c := x4 < 1) (fun ht hf => ev_clt rfl ht hf) (fun hc13 => ?_) (fun hc13 => ?_)
                · rw [if_pos hc13] at h
                  exact TJ_X12_lot_66 xs L N (.ref 235) (.int x1) (.int x2) (.int x3) (.int x4) (.int x5) σ6 q h hG9
                · rw [if_neg hc13] at h
                  refine ev_a (fun he => ev_iload rfl rfl he) ?_
                  refine ev_a (fun he => ev_push rfl he) ?_
                  refine ev_b (c := 20 < x4) (fun ht hf => ev_cgt rfl ht hf) (fun hc14 => ?_) (fun hc14 => ?_)
                  · rw [if_pos hc14] at h
                    exact TJ_X12_lot_66 xs L N (.ref 235) (.int x1) (.int x2) (.int x3) (.int x4) (.int x5) σ6 q h hG9
                  · rw [if_neg hc14] at h
                    refine ev_a (fun he => ev_iload rfl rfl he) ?_
                    refine ev_b (c := x5 < 0) (fun ht hf => ev_iflt rfl ht hf) (fun hc15 => ?_) (fun hc15 => ?_)
                    · rw [if_pos hc15] at h
                      exact TJ_X12_lot_66 xs L N (.ref 235) (.int x1) (.int x2) (.int x3) (.int x4) (.int x5) σ6 q h hG9
                    · rw [if_neg hc15] at h
                      refine ev_a (fun he => ev_iload rfl rfl he) ?_
                      refine ev_a (fun he => ev_push rfl he) ?_
                      refine ev_b (c := x5 ≤ 9) (fun ht hf => ev_cle rfl ht hf) (fun hc16 => ?_) (fun hc16 => ?_)
                      · rw [if_pos hc16] at h
                        refine ev_a (fun he => ev_aload rfl rfl he) ?_
                        refine ev_a (fun he => ev_getR rfl (gr_ob (n := 80) hG9 rfl) (gr_p (a := 235) (k := 38) (b := 259) hG9 rfl) he) ?_
                        refine ev_a (fun he => ev_aload rfl rfl he) ?_
                        refine ev_a (fun he => ev_getI rfl (gr_ob (n := 80) hG9 rfl) he) ?_
                        refine ev_a (fun he => ev_iload rfl rfl he) ?_
                        obtain ⟨hc17, h⟩ := cO_inv h
                        obtain ⟨σ18, e19, h⟩ := lt_inv h
                        have hG20 : Gr σ18 := gr_wi e19 hG9
                        refine ev_a (fun he => ev_astI (k := (aI σ6 235 37).toNatClampNeg) rfl (gr_ar hG9 rfl) hc17 rfl rfl e19 he) ?_
                        refine ev_a (fun he => ev_aload rfl rfl he) ?_
                        refine ev_a (fun he => ev_getR rfl (gr_ob (n := 80) hG20 rfl) (gr_p (a := 235) (k := 39) (b := 260) hG20 rfl) he) ?_
                        refine ev_a (fun he => ev_aload rfl rfl he) ?_
                        refine ev_a (fun he => ev_getI rfl (gr_ob (n := 80) hG20 rfl) he) ?_
                        refine ev_a (fun he => ev_iload rfl rfl he) ?_
                        obtain ⟨hc21, h⟩ := cO_inv h
                        obtain ⟨σ22, e23, h⟩ := lt_inv h
                        have hG24 : Gr σ22 := gr_wi e23 hG20
                        refine ev_a (fun he => ev_astI (k := (aI σ18 235 37).toNatClampNeg) rfl (gr_ar hG20 rfl) hc21 rfl rfl e23 he) ?_
                        refine ev_a (fun he => ev_aload rfl rfl he) ?_
                        refine ev_a (fun he => ev_getR rfl (gr_ob (n := 80) hG24 rfl) (gr_p (a := 235) (k := 40) (b := 261) hG24 rfl) he) ?_
                        refine ev_a (fun he => ev_aload rfl rfl he) ?_
                        refine ev_a (fun he => ev_getI rfl (gr_ob (n := 80) hG24 rfl) he) ?_
                        refine ev_a (fun he => ev_iload rfl rfl he) ?_
                        obtain ⟨hc25, h⟩ := cO_inv h
                        obtain ⟨σ26, e27, h⟩ := lt_inv h
                        have hG28 : Gr σ26 := gr_wi e27 hG24
                        refine ev_a (fun he => ev_astI (k := (aI σ22 235 37).toNatClampNeg) rfl (gr_ar hG24 rfl) hc25 rfl rfl e27 he) ?_
                        refine ev_a (fun he => ev_aload rfl rfl he) ?_
                        refine ev_a (fun he => ev_getR rfl (gr_ob (n := 80) hG28 rfl) (gr_p (a := 235) (k := 41) (b := 262) hG28 rfl) he) ?_
                        refine ev_a (fun he => ev_aload rfl rfl he) ?_
                        refine ev_a (fun he => ev_getI rfl (gr_ob (n := 80) hG28 rfl) he) ?_
                        refine ev_a (fun he => ev_iload rfl rfl he) ?_
                        obtain ⟨hc29, h⟩ := cO_inv h
                        obtain ⟨σ30, e31, h⟩ := lt_inv h
                        have hG32 : Gr σ30 := gr_wi e31 hG28
                        refine ev_a (fun he => ev_astI (k := (aI σ26 235 37).toNatClampNeg) rfl (gr_ar hG28 rfl) hc29 rfl rfl e31 he) ?_
                        refine ev_a (fun he => ev_aload rfl rfl he) ?_
                        refine ev_a (fun he => ev_getR rfl (gr_ob (n := 80) hG32 rfl) (gr_p (a := 235) (k := 42) (b := 263) hG32 rfl) he) ?_
                        refine ev_a (fun he => ev_aload rfl rfl he) ?_
                        refine ev_a (fun he => ev_getI rfl (gr_ob (n := 80) hG32 rfl) he) ?_
                        refine ev_a (fun he => ev_iload rfl rfl he) ?_
                        obtain ⟨hc33, h⟩ := cO_inv h
                        obtain ⟨σ34, e35, h⟩ := lt_inv h
                        have hG36 : Gr σ34 := gr_wi e35 hG32
                        refine ev_a (fun he => ev_astI (k := (aI σ30 235 37).toNatClampNeg) rfl (gr_ar hG32 rfl) hc33 rfl rfl e35 he) ?_
                        refine ev_a (fun he => ev_aload rfl rfl he) ?_
                        refine ev_a (fun he => ev_dupR rfl he) ?_
                        refine ev_a (fun he => ev_getI rfl (gr_ob (n := 80) hG36 rfl) he) ?_
                        refine ev_a (fun he => ev_push rfl he) ?_
                        refine ev_a (fun he => ev_bin (z := (aI σ34 235 37) + 1) rfl rfl he) ?_
                        obtain ⟨σ37, e38, h⟩ := lt_inv h
                        have hG39 : Gr σ37 := gr_wi e38 hG36
                        refine ev_a (fun he => ev_putI rfl (gr_ob (n := 80) hG36 rfl) e38 he) ?_
                        refine ev_a (fun he => ev_aload rfl rfl he) ?_
                        refine ev_a (fun he => ev_getI rfl (gr_ob (n := 80) hG39 rfl) he) ?_
                        refine ev_a (fun he => ev_push rfl he) ?_
                        refine ev_a (fun he => ev_bin (z := (aI σ37 235 37) - 1) rfl rfl he) ?_
                        cases h
                        exact ⟨ev_retI rfl, hG39⟩
                      · rw [if_neg hc16] at h
                        exact TJ_X12_lot_66 xs L N (.ref 235) (.int x1) (.int x2) (.int x3) (.int x4) (.int x5) σ6 q h hG9
def J_X12_buyer_29 (N : Nat) (σ : aSt) : Option (Int32 × aSt) := some ((-1), σ)
set_option maxRecDepth 20000 in
set_option maxHeartbeats 4000000 in
theorem TJ_X12_buyer_29 (xs : Nat → Int32) (L : Nat) (N : Nat) (d0 : Value) (d1 : Value) (d2 : Value) (σ : aSt) (q : Int32 × aSt) (h : J_X12_buyer_29 N  σ = some q) (hG : Gr σ) : Ev xs L 144 29 [d0, d1, d2] [] σ (wI q.1) q.2 ∧ Gr q.2 := by
  have h : (some ((-1), σ)) = some q := h
  refine ev_a (fun he => ev_push rfl he) ?_
  cases h
  exact ⟨ev_retI rfl, hG⟩
def F_X12_buyer (N : Nat) (x1 : Int32) (x2 : Int32) (σ : aSt) : Option (Int32 × aSt) := if (aI σ 235 43) = 6 then J_X12_buyer_29 N σ else if x1 < 0 then J_X12_buyer_29 N σ else if 3 < x1 then J_X12_buyer_29 N σ else if x2 < 0 then J_X12_buyer_29 N σ else if x2 ≤ 1000000 then cO (¬ ((aI σ 235 43) < 0 ∨ 6 ≤ (aI σ 235 43).toNatClampNeg)) (lt (aWI σ 264 (aI σ 235 43).toNatClampNeg x1) fun σ7 => cO (¬ ((aI σ7 235 43) < 0 ∨ 6 ≤ (aI σ7 235 43).toNatClampNeg)) (lt (aWI σ7 265 (aI σ7 235 43).toNatClampNeg x2) fun σ11 => lt (aWI σ11 235 43 ((aI σ11 235 43) + 1)) fun σ14 => some ((aI σ14 235 43) - 1, σ14))) else J_X12_buyer_29 N σ
set_option maxRecDepth 20000 in
set_option maxHeartbeats 4000000 in
theorem T_X12_buyer (xs : Nat → Int32) (L : Nat) (N : Nat) (x1 : Int32) (x2 : Int32) (σ : aSt) (q : Int32 × aSt) (h : F_X12_buyer N x1 x2 σ = some q) (hG : Gr σ) : Cal xs L 144 [.ref 235, .int x1, .int x2] σ (wI q.1) q.2 ∧ Gr q.2 := by
  have h : (if (aI σ 235 43) = 6 then J_X12_buyer_29 N σ else if x1 < 0 then J_X12_buyer_29 N σ else if 3 < x1 then J_X12_buyer_29 N σ else if x2 < 0 then J_X12_buyer_29 N σ else if x2 ≤ 1000000 then cO (¬ ((aI σ 235 43) < 0 ∨ 6 ≤ (aI σ 235 43).toNatClampNeg)) (lt (aWI σ 264 (aI σ 235 43).toNatClampNeg x1) fun σ7 => cO (¬ ((aI σ7 235 43) < 0 ∨ 6 ≤ (aI σ7 235 43).toNatClampNeg)) (lt (aWI σ7 265 (aI σ7 235 43).toNatClampNeg x2) fun σ11 => lt (aWI σ11 235 43 ((aI σ11 235 43) + 1)) fun σ14 => some ((aI σ14 235 43) - 1, σ14))) else J_X12_buyer_29 N σ) = some q := h
  show Ev xs L 144 0 [.ref 235, .int x1, .int x2] [] σ (wI q.1) q.2 ∧ Gr q.2
  refine ev_a (fun he => ev_aload rfl rfl he) ?_
  refine ev_a (fun he => ev_getI rfl (gr_ob (n := 80) hG rfl) he) ?_
  refine ev_a (fun he => ev_push rfl he) ?_
  refine ev_b (c := (aI σ 235 43) = 6) (fun ht hf => ev_ceq rfl ht hf) (fun hc1 => ?_) (fun hc1 => ?_)
  · rw [if_pos hc1] at h
    exact TJ_X12_buyer_29 xs L N (.ref 235) (.int x1) (.int x2) σ q h hG
  · rw [if_neg hc1] at h
    refine ev_a (fun he => ev_iload rfl rfl he) ?_
    refine ev_b (c := x1 < 0) (fun ht hf => ev_iflt rfl ht hf) (fun hc2 => ?_) (fun hc2 => ?_)
    · rw [if_pos hc2] at h
      exact TJ_X12_buyer_29 xs L N (.ref 235) (.int x1) (.int x2) σ q h hG
    · rw [if_neg hc2] at h
      refine ev_a (fun he => ev_iload rfl rfl he) ?_
      refine ev_a (fun he => ev_push rfl he) ?_
      refine ev_b (c := 3 < x1) (fun ht hf => ev_cgt rfl ht hf) (fun hc3 => ?_) (fun hc3 => ?_)
      · rw [if_pos hc3] at h
        exact TJ_X12_buyer_29 xs L N (.ref 235) (.int x1) (.int x2) σ q h hG
      · rw [if_neg hc3] at h
        refine ev_a (fun he => ev_iload rfl rfl he) ?_
        refine ev_b (c := x2 < 0) (fun ht hf => ev_iflt rfl ht hf) (fun hc4 => ?_) (fun hc4 => ?_)
        · rw [if_pos hc4] at h
          exact TJ_X12_buyer_29 xs L N (.ref 235) (.int x1) (.int x2) σ q h hG
        · rw [if_neg hc4] at h
          refine ev_a (fun he => ev_iload rfl rfl he) ?_
          refine ev_a (fun he => ev_push rfl he) ?_
          refine ev_b (c := x2 ≤ 1000000) (fun ht hf => ev_cle rfl ht hf) (fun hc5 => ?_) (fun hc5 => ?_)
          · rw [if_pos hc5] at h
            refine ev_a (fun he => ev_aload rfl rfl he) ?_
            refine ev_a (fun he => ev_getR rfl (gr_ob (n := 80) hG rfl) (gr_p (a := 235) (k := 44) (b := 264) hG rfl) he) ?_
            refine ev_a (fun he => ev_aload rfl rfl he) ?_
            refine ev_a (fun he => ev_getI rfl (gr_ob (n := 80) hG rfl) he) ?_
            refine ev_a (fun he => ev_iload rfl rfl he) ?_
            obtain ⟨hc6, h⟩ := cO_inv h
            obtain ⟨σ7, e8, h⟩ := lt_inv h
            have hG9 : Gr σ7 := gr_wi e8 hG
            refine ev_a (fun he => ev_astI (k := (aI σ 235 43).toNatClampNeg) rfl (gr_ar hG rfl) hc6 rfl rfl e8 he) ?_
            refine ev_a (fun he => ev_aload rfl rfl he) ?_
            refine ev_a (fun he => ev_getR rfl (gr_ob (n := 80) hG9 rfl) (gr_p (a := 235) (k := 45) (b := 265) hG9 rfl) he) ?_
            refine ev_a (fun he => ev_aload rfl rfl he) ?_
            refine ev_a (fun he => ev_getI rfl (gr_ob (n := 80) hG9 rfl) he) ?_
            refine ev_a (fun he => ev_iload rfl rfl he) ?_
            obtain ⟨hc10, h⟩ := cO_inv h
            obtain ⟨σ11, e12, h⟩ := lt_inv h
            have hG13 : Gr σ11 := gr_wi e12 hG9
            refine ev_a (fun he => ev_astI (k := (aI σ7 235 43).toNatClampNeg) rfl (gr_ar hG9 rfl) hc10 rfl rfl e12 he) ?_
            refine ev_a (fun he => ev_aload rfl rfl he) ?_
            refine ev_a (fun he => ev_dupR rfl he) ?_
            refine ev_a (fun he => ev_getI rfl (gr_ob (n := 80) hG13 rfl) he) ?_
            refine ev_a (fun he => ev_push rfl he) ?_
            refine ev_a (fun he => ev_bin (z := (aI σ11 235 43) + 1) rfl rfl he) ?_
            obtain ⟨σ14, e15, h⟩ := lt_inv h
            have hG16 : Gr σ14 := gr_wi e15 hG13
            refine ev_a (fun he => ev_putI rfl (gr_ob (n := 80) hG13 rfl) e15 he) ?_
            refine ev_a (fun he => ev_aload rfl rfl he) ?_
            refine ev_a (fun he => ev_getI rfl (gr_ob (n := 80) hG16 rfl) he) ?_
            refine ev_a (fun he => ev_push rfl he) ?_
            refine ev_a (fun he => ev_bin (z := (aI σ14 235 43) - 1) rfl rfl he) ?_
            cases h
            exact ⟨ev_retI rfl, hG16⟩
          · rw [if_neg hc5] at h
            exact TJ_X12_buyer_29 xs L N (.ref 235) (.int x1) (.int x2) σ q h hG
def J_X12_want_26 (N : Nat) (σ : aSt) : Option (Int32 × aSt) := cO (vp_nar .boolean 0 = 0) (some (0, σ))
set_option maxRecDepth 20000 in
set_option maxHeartbeats 4000000 in
theorem TJ_X12_want_26 (xs : Nat → Int32) (L : Nat) (N : Nat) (d0 : Value) (d1 : Value) (d2 : Value) (d3 : Value) (σ : aSt) (q : Int32 × aSt) (h : J_X12_want_26 N  σ = some q) (hG : Gr σ) : Ev xs L 145 26 [d0, d1, d2, d3] [] σ (wI q.1) q.2 ∧ Gr q.2 := by
  have h : (cO (vp_nar .boolean 0 = 0) (some (0, σ))) = some q := h
  refine ev_a (fun he => ev_push rfl he) ?_
  obtain ⟨hc1, h⟩ := cO_inv h
  cases h
  exact ⟨ev_retZ rfl hc1, hG⟩
def F_X12_want (N : Nat) (x1 : Int32) (x2 : Int32) (x3 : Int32) (σ : aSt) : Option (Int32 × aSt) := oB (F_X12_isBuyer N x1 σ) fun y2 σ3 => if y2 = 0 then J_X12_want_26 N σ3 else oB (F_X12_isKind N x2 σ3) fun y8 σ9 => if y8 = 0 then J_X12_want_26 N σ9 else if x3 < 0 then J_X12_want_26 N σ9 else if x3 ≤ 500 then cO (¬ (((6 * x1) + x2) < 0 ∨ 36 ≤ ((6 * x1) + x2).toNatClampNeg)) (lt (aWI σ9 266 ((6 * x1) + x2).toNatClampNeg x3) fun σ17 => cO (vp_nar .boolean 1 = 1) (some (1, σ17))) else J_X12_want_26 N σ9
set_option maxRecDepth 20000 in
set_option maxHeartbeats 4000000 in
theorem T_X12_want (xs : Nat → Int32) (L : Nat) (N : Nat) (x1 : Int32) (x2 : Int32) (x3 : Int32) (σ : aSt) (q : Int32 × aSt) (h : F_X12_want N x1 x2 x3 σ = some q) (hG : Gr σ) : Cal xs L 145 [.ref 235, .int x1, .int x2, .int x3] σ (wI q.1) q.2 ∧ Gr q.2 := by
  have h : (oB (F_X12_isBuyer N x1 σ) fun y2 σ3 => if y2 = 0 then J_X12_want_26 N σ3 else oB (F_X12_isKind N x2 σ3) fun y8 σ9 => if y8 = 0 then J_X12_want_26 N σ9 else if x3 < 0 then J_X12_want_26 N σ9 else if x3 ≤ 500 then cO (¬ (((6 * x1) + x2) < 0 ∨ 36 ≤ ((6 * x1) + x2).toNatClampNeg)) (lt (aWI σ9 266 ((6 * x1) + x2).toNatClampNeg x3) fun σ17 => cO (vp_nar .boolean 1 = 1) (some (1, σ17))) else J_X12_want_26 N σ9) = some q := h
  show Ev xs L 145 0 [.ref 235, .int x1, .int x2, .int x3] [] σ (wI q.1) q.2 ∧ Gr q.2
  refine ev_a (fun he => ev_aload rfl rfl he) ?_
  refine ev_a (fun he => ev_iload rfl rfl he) ?_
  obtain ⟨y2, σ3, h4, h⟩ := oB_inv h
  obtain ⟨c5, hG6⟩ := T_X12_isBuyer xs L N x1 σ (y2, σ3) h4 hG
  refine ev_a (fun he => ev_callV (as := [.int x1]) rfl (gr_ob (n := 80) hG rfl) rfl rfl rfl (Nat.le_of_ble_eq_true rfl) (Nat.le_of_ble_eq_true rfl) c5 he) ?_
  refine ev_b (c := y2 = 0) (fun ht hf => ev_ifeq rfl ht hf) (fun hc7 => ?_) (fun hc7 => ?_)
  · rw [if_pos hc7] at h
    exact TJ_X12_want_26 xs L N (.ref 235) (.int x1) (.int x2) (.int x3) σ3 q h hG6
  · rw [if_neg hc7] at h
    refine ev_a (fun he => ev_iload rfl rfl he) ?_
    obtain ⟨y8, σ9, h10, h⟩ := oB_inv h
    obtain ⟨c11, hG12⟩ := T_X12_isKind xs L N x2 σ3 (y8, σ9) h10 hG6
    refine ev_a (fun he => ev_callS (as := [.int x2]) rfl rfl rfl rfl (Nat.le_of_ble_eq_true rfl) (Nat.le_of_ble_eq_true rfl) c11 he) ?_
    refine ev_b (c := y8 = 0) (fun ht hf => ev_ifeq rfl ht hf) (fun hc13 => ?_) (fun hc13 => ?_)
    · rw [if_pos hc13] at h
      exact TJ_X12_want_26 xs L N (.ref 235) (.int x1) (.int x2) (.int x3) σ9 q h hG12
    · rw [if_neg hc13] at h
      refine ev_a (fun he => ev_iload rfl rfl he) ?_
      refine ev_b (c := x3 < 0) (fun ht hf => ev_iflt rfl ht hf) (fun hc14 => ?_) (fun hc14 => ?_)
      · rw [if_pos hc14] at h
        exact TJ_X12_want_26 xs L N (.ref 235) (.int x1) (.int x2) (.int x3) σ9 q h hG12
      · rw [if_neg hc14] at h
        refine ev_a (fun he => ev_iload rfl rfl he) ?_
        refine ev_a (fun he => ev_push rfl he) ?_
        refine ev_b (c := x3 ≤ 500) (fun ht hf => ev_cle rfl ht hf) (fun hc15 => ?_) (fun hc15 => ?_)
        · rw [if_pos hc15] at h
          refine ev_a (fun he => ev_aload rfl rfl he) ?_
          refine ev_a (fun he => ev_getR rfl (gr_ob (n := 80) hG12 rfl) (gr_p (a := 235) (k := 46) (b := 266) hG12 rfl) he) ?_
          refine ev_a (fun he => ev_push rfl he) ?_
          refine ev_a (fun he => ev_iload rfl rfl he) ?_
          refine ev_a (fun he => ev_bin (z := 6 * x1) rfl rfl he) ?_
          refine ev_a (fun he => ev_iload rfl rfl he) ?_
          refine ev_a (fun he => ev_bin (z := (6 * x1) + x2) rfl rfl he) ?_
          refine ev_a (fun he => ev_iload rfl rfl he) ?_
          obtain ⟨hc16, h⟩ := cO_inv h
          obtain ⟨σ17, e18, h⟩ := lt_inv h
          have hG19 : Gr σ17 := gr_wi e18 hG12
          refine ev_a (fun he => ev_astI (k := ((6 * x1) + x2).toNatClampNeg) rfl (gr_ar hG12 rfl) hc16 rfl rfl e18 he) ?_
          refine ev_a (fun he => ev_push rfl he) ?_
          obtain ⟨hc20, h⟩ := cO_inv h
          cases h
          exact ⟨ev_retZ rfl hc20, hG19⟩
        · rw [if_neg hc15] at h
          exact TJ_X12_want_26 xs L N (.ref 235) (.int x1) (.int x2) (.int x3) σ9 q h hG12
def J_X12_lorry_40 (N : Nat) (σ : aSt) : Option (Int32 × aSt) := some ((-1), σ)
set_option maxRecDepth 20000 in
set_option maxHeartbeats 4000000 in
theorem TJ_X12_lorry_40 (xs : Nat → Int32) (L : Nat) (N : Nat) (d0 : Value) (d1 : Value) (d2 : Value) (d3 : Value) (σ : aSt) (q : Int32 × aSt) (h : J_X12_lorry_40 N  σ = some q) (hG : Gr σ) : Ev xs L 146 40 [d0, d1, d2, d3] [] σ (wI q.1) q.2 ∧ Gr q.2 := by
  have h : (some ((-1), σ)) = some q := h
  refine ev_a (fun he => ev_push rfl he) ?_
  cases h
  exact ⟨ev_retI rfl, hG⟩
def F_X12_lorry (N : Nat) (x1 : Int32) (x2 : Int32) (x3 : Int32) (σ : aSt) : Option (Int32 × aSt) := if (aI σ 235 48) = 6 then J_X12_lorry_40 N σ else if x1 < 0 then J_X12_lorry_40 N σ else if 3 < x1 then J_X12_lorry_40 N σ else if x2 < 1 then J_X12_lorry_40 N σ else if 60 < x2 then J_X12_lorry_40 N σ else if x3 < 0 then J_X12_lorry_40 N σ else if x3 ≤ 99999 then cO (¬ ((aI σ 235 48) < 0 ∨ 6 ≤ (aI σ 235 48).toNatClampNeg)) (lt (aWI σ 268 (aI σ 235 48).toNatClampNeg x1) fun σ9 => cO (¬ ((aI σ9 235 48) < 0 ∨ 6 ≤ (aI σ9 235 48).toNatClampNeg)) (lt (aWI σ9 269 (aI σ9 235 48).toNatClampNeg x2) fun σ13 => cO (¬ ((aI σ13 235 48) < 0 ∨ 6 ≤ (aI σ13 235 48).toNatClampNeg)) (lt (aWI σ13 270 (aI σ13 235 48).toNatClampNeg x3) fun σ17 => lt (aWI σ17 235 48 ((aI σ17 235 48) + 1)) fun σ20 => some ((aI σ20 235 48) - 1, σ20)))) else J_X12_lorry_40 N σ
set_option maxRecDepth 20000 in
set_option maxHeartbeats 4000000 in
theorem T_X12_lorry (xs : Nat → Int32) (L : Nat) (N : Nat) (x1 : Int32) (x2 : Int32) (x3 : Int32) (σ : aSt) (q : Int32 × aSt) (h : F_X12_lorry N x1 x2 x3 σ = some q) (hG : Gr σ) : Cal xs L 146 [.ref 235, .int x1, .int x2, .int x3] σ (wI q.1) q.2 ∧ Gr q.2 := by
  have h : (if (aI σ 235 48) = 6 then J_X12_lorry_40 N σ else if x1 < 0 then J_X12_lorry_40 N σ else if 3 < x1 then J_X12_lorry_40 N σ else if x2 < 1 then J_X12_lorry_40 N σ else if 60 < x2 then J_X12_lorry_40 N σ else if x3 < 0 then J_X12_lorry_40 N σ else if x3 ≤ 99999 then cO (¬ ((aI σ 235 48) < 0 ∨ 6 ≤ (aI σ 235 48).toNatClampNeg)) (lt (aWI σ 268 (aI σ 235 48).toNatClampNeg x1) fun σ9 => cO (¬ ((aI σ9 235 48) < 0 ∨ 6 ≤ (aI σ9 235 48).toNatClampNeg)) (lt (aWI σ9 269 (aI σ9 235 48).toNatClampNeg x2) fun σ13 => cO (¬ ((aI σ13 235 48) < 0 ∨ 6 ≤ (aI σ13 235 48).toNatClampNeg)) (lt (aWI σ13 270 (aI σ13 235 48).toNatClampNeg x3) fun σ17 => lt (aWI σ17 235 48 ((aI σ17 235 48) + 1)) fun σ20 => some ((aI σ20 235 48) - 1, σ20)))) else J_X12_lorry_40 N σ) = some q := h
  show Ev xs L 146 0 [.ref 235, .int x1, .int x2, .int x3] [] σ (wI q.1) q.2 ∧ Gr q.2
  refine ev_a (fun he => ev_aload rfl rfl he) ?_
  refine ev_a (fun he => ev_getI rfl (gr_ob (n := 80) hG rfl) he) ?_
  refine ev_a (fun he => ev_push rfl he) ?_
  refine ev_b (c := (aI σ 235 48) = 6) (fun ht hf => ev_ceq rfl ht hf) (fun hc1 => ?_) (fun hc1 => ?_)
  · rw [if_pos hc1] at h
    exact TJ_X12_lorry_40 xs L N (.ref 235) (.int x1) (.int x2) (.int x3) σ q h hG
  · rw [if_neg hc1] at h
    refine ev_a (fun he => ev_iload rfl rfl he) ?_
    refine ev_b (c := x1 < 0) (fun ht hf => ev_iflt rfl ht hf) (fun hc2 => ?_) (fun hc2 => ?_)
    · rw [if_pos hc2] at h
      exact TJ_X12_lorry_40 xs L N (.ref 235) (.int x1) (.int x2) (.int x3) σ q h hG
    · rw [if_neg hc2] at h
      refine ev_a (fun he => ev_iload rfl rfl he) ?_
      refine ev_a (fun he => ev_push rfl he) ?_
      refine ev_b (c := 3 < x1) (fun ht hf => ev_cgt rfl ht hf) (fun hc3 => ?_) (fun hc3 => ?_)
      · rw [if_pos hc3] at h
        exact TJ_X12_lorry_40 xs L N (.ref 235) (.int x1) (.int x2) (.int x3) σ q h hG
      · rw [if_neg hc3] at h
        refine ev_a (fun he => ev_iload rfl rfl he) ?_
        refine ev_a (fun he => ev_push rfl he) ?_
        refine ev_b (c := x2 < 1) (fun ht hf => ev_clt rfl ht hf) (fun hc4 => ?_) (fun hc4 => ?_)
        · rw [if_pos hc4] at h
          exact TJ_X12_lorry_40 xs L N (.ref 235) (.int x1) (.int x2) (.int x3) σ q h hG
        · rw [if_neg hc4] at h
          refine ev_a (fun he => ev_iload rfl rfl he) ?_
          refine ev_a (fun he => ev_push rfl he) ?_
          refine ev_b (c := 60 < x2) (fun ht hf => ev_cgt rfl ht hf) (fun hc5 => ?_) (fun hc5 => ?_)
          · rw [if_pos hc5] at h
            exact TJ_X12_lorry_40 xs L N (.ref 235) (.int x1) (.int x2) (.int x3) σ q h hG
          · rw [if_neg hc5] at h
            refine ev_a (fun he => ev_iload rfl rfl he) ?_
            refine ev_b (c := x3 < 0) (fun ht hf => ev_iflt rfl ht hf) (fun hc6 => ?_) (fun hc6 => ?_)
            · rw [if_pos hc6] at h
              exact TJ_X12_lorry_40 xs L N (.ref 235) (.int x1) (.int x2) (.int x3) σ q h hG
            · rw [if_neg hc6] at h
              refine ev_a (fun he => ev_iload rfl rfl he) ?_
              refine ev_a (fun he => ev_push rfl he) ?_
              refine ev_b (c := x3 ≤ 99999) (fun ht hf => ev_cle rfl ht hf) (fun hc7 => ?_) (fun hc7 => ?_)
              · rw [if_pos hc7] at h
                refine ev_a (fun he => ev_aload rfl rfl he) ?_
                refine ev_a (fun he => ev_getR rfl (gr_ob (n := 80) hG rfl) (gr_p (a := 235) (k := 49) (b := 268) hG rfl) he) ?_
                refine ev_a (fun he => ev_aload rfl rfl he) ?_
                refine ev_a (fun he => ev_getI rfl (gr_ob (n := 80) hG rfl) he) ?_
                refine ev_a (fun he => ev_iload rfl rfl he) ?_
                obtain ⟨hc8, h⟩ := cO_inv h
                obtain ⟨σ9, e10, h⟩ := lt_inv h
                have hG11 : Gr σ9 := gr_wi e10 hG
                refine ev_a (fun he => ev_astI (k := (aI σ 235 48).toNatClampNeg) rfl (gr_ar hG rfl) hc8 rfl rfl e10 he) ?_
                refine ev_a (fun he => ev_aload rfl rfl he) ?_
                refine ev_a (fun he => ev_getR rfl (gr_ob (n := 80) hG11 rfl) (gr_p (a := 235) (k := 50) (b := 269) hG11 rfl) he) ?_
                refine ev_a (fun he => ev_aload rfl rfl he) ?_
                refine ev_a (fun he => ev_getI rfl (gr_ob (n := 80) hG11 rfl) he) ?_
                refine ev_a (fun he => ev_iload rfl rfl he) ?_
                obtain ⟨hc12, h⟩ := cO_inv h
                obtain ⟨σ13, e14, h⟩ := lt_inv h
                have hG15 : Gr σ13 := gr_wi e14 hG11
                refine ev_a (fun he => ev_astI (k := (aI σ9 235 48).toNatClampNeg) rfl (gr_ar hG11 rfl) hc12 rfl rfl e14 he) ?_
                refine ev_a (fun he => ev_aload rfl rfl he) ?_
                refine ev_a (fun he => ev_getR rfl (gr_ob (n := 80) hG15 rfl) (gr_p (a := 235) (k := 51) (b := 270) hG15 rfl) he) ?_
                refine ev_a (fun he => ev_aload rfl rfl he) ?_
                refine ev_a (fun he => ev_getI rfl (gr_ob (n := 80) hG15 rfl) he) ?_
                refine ev_a (fun he => ev_iload rfl rfl he) ?_
                obtain ⟨hc16, h⟩ := cO_inv h
                obtain ⟨σ17, e18, h⟩ := lt_inv h
                have hG19 : Gr σ17 := gr_wi e18 hG15
                refine ev_a (fun he => ev_astI (k := (aI σ13 235 48).toNatClampNeg) rfl (gr_ar hG15 rfl) hc16 rfl rfl e18 he) ?_
                refine ev_a (fun he => ev_aload rfl rfl he) ?_
                refine ev_a (fun he => ev_dupR rfl he) ?_
                refine ev_a (fun he => ev_getI rfl (gr_ob (n := 80) hG19 rfl) he) ?_
                refine ev_a (fun he => ev_push rfl he) ?_
                refine ev_a (fun he => ev_bin (z := (aI σ17 235 48) + 1) rfl rfl he) ?_
                obtain ⟨σ20, e21, h⟩ := lt_inv h
                have hG22 : Gr σ20 := gr_wi e21 hG19
                refine ev_a (fun he => ev_putI rfl (gr_ob (n := 80) hG19 rfl) e21 he) ?_
                refine ev_a (fun he => ev_aload rfl rfl he) ?_
                refine ev_a (fun he => ev_getI rfl (gr_ob (n := 80) hG22 rfl) he) ?_
                refine ev_a (fun he => ev_push rfl he) ?_
                refine ev_a (fun he => ev_bin (z := (aI σ20 235 48) - 1) rfl rfl he) ?_
                cases h
                exact ⟨ev_retI rfl, hG22⟩
              · rw [if_neg hc7] at h
                exact TJ_X12_lorry_40 xs L N (.ref 235) (.int x1) (.int x2) (.int x3) σ q h hG
