def J_X12_holds_213 (N : Nat) (k27 : Int32 → Int32 → Int32 → Int32 → aSt → Option (Int32 × aSt)) (x1 : Int32) (x2 : Int32) (x3 : Int32) (x4 : Int32) (σ : aSt) : Option (Int32 × aSt) := k27 x1 x2 x3 (x4 + 1) σ
set_option maxRecDepth 20000 in
set_option maxHeartbeats 4000000 in
theorem TJ_X12_holds_213 (xs : Nat → Int32) (L : Nat) (N : Nat) (k27 : Int32 → Int32 → Int32 → Int32 → aSt → Option (Int32 × aSt)) (hk27 : ∀ (x1 : Int32) (x2 : Int32) (x3 : Int32) (x4 : Int32) (d5 : Value) (d6 : Value) (d7 : Value) (σ : aSt) (q : Int32 × aSt), k27 x1 x2 x3 x4 σ = some q → Gr σ → Ev xs L 150 27 [.ref 235, .int x1, .int x2, .int x3, .int x4, d5, d6, d7] [] σ (wI q.1) q.2 ∧ Gr q.2) (x1 : Int32) (x2 : Int32) (x3 : Int32) (x4 : Int32) (d5 : Value) (d6 : Value) (d7 : Value) (σ : aSt) (q : Int32 × aSt) (h : J_X12_holds_213 N k27 x1 x2 x3 x4 σ = some q) (hG : Gr σ) : Ev xs L 150 213 [.ref 235, .int x1, .int x2, .int x3, .int x4, d5, d6, d7] [] σ (wI q.1) q.2 ∧ Gr q.2 := by
  have h : (k27 x1 x2 x3 (x4 + 1) σ) = some q := h
  refine ev_a (fun he => ev_iinc (ls' := [.ref 235, .int x1, .int x2, .int x3, .int (x4 + 1), d5, d6, d7]) rfl rfl rfl (Nat.le_of_ble_eq_true rfl) rfl he) ?_
  refine ev_a (fun he => ev_goto rfl he) ?_
  exact hk27 x1 x2 x3 (x4 + 1) (d5) (d6) (d7) σ q h hG
def J_X12_holds_212 (N : Nat) (k27 : Int32 → Int32 → Int32 → Int32 → aSt → Option (Int32 × aSt)) (x1 : Int32) (x2 : Int32) (x4 : Int32) (s0 : Int32) (σ : aSt) : Option (Int32 × aSt) := J_X12_holds_213 N k27 x1 x2 s0 x4 σ
set_option maxRecDepth 20000 in
set_option maxHeartbeats 4000000 in
theorem TJ_X12_holds_212 (xs : Nat → Int32) (L : Nat) (N : Nat) (k27 : Int32 → Int32 → Int32 → Int32 → aSt → Option (Int32 × aSt)) (hk27 : ∀ (x1 : Int32) (x2 : Int32) (x3 : Int32) (x4 : Int32) (d5 : Value) (d6 : Value) (d7 : Value) (σ : aSt) (q : Int32 × aSt), k27 x1 x2 x3 x4 σ = some q → Gr σ → Ev xs L 150 27 [.ref 235, .int x1, .int x2, .int x3, .int x4, d5, d6, d7] [] σ (wI q.1) q.2 ∧ Gr q.2) (x1 : Int32) (x2 : Int32) (x4 : Int32) (s0 : Int32) (d3 : Value) (d5 : Value) (d6 : Value) (d7 : Value) (σ : aSt) (q : Int32 × aSt) (h : J_X12_holds_212 N k27 x1 x2 x4 s0 σ = some q) (hG : Gr σ) : Ev xs L 150 212 [.ref 235, .int x1, .int x2, d3, .int x4, d5, d6, d7] [.int s0] σ (wI q.1) q.2 ∧ Gr q.2 := by
  have h : (J_X12_holds_213 N k27 x1 x2 s0 x4 σ) = some q := h
  refine ev_a (fun he => ev_istore (ls' := [.ref 235, .int x1, .int x2, .int s0, .int x4, d5, d6, d7]) rfl (Nat.le_of_ble_eq_true rfl) rfl he) ?_
  exact TJ_X12_holds_213 xs L N k27 hk27 x1 x2 s0 x4 (d5) (d6) (d7) σ q h hG
def J_X12_holds_76 (N : Nat) (k27 : Int32 → Int32 → Int32 → Int32 → aSt → Option (Int32 × aSt)) (x1 : Int32) (x2 : Int32) (x3 : Int32) (x4 : Int32) (x5 : Int32) (σ : aSt) : Option (Int32 × aSt) := if x3 ≠ 0 then cO (¬ (x5 < 0 ∨ 2800 ≤ x5.toNatClampNeg)) (cO (¬ (x5 < 0 ∨ 2800 ≤ x5.toNatClampNeg)) (oB (F_X12_value N (aI σ 252 x5.toNatClampNeg) (aI σ 253 x5.toNatClampNeg) σ) fun y4 σ5 => cO (¬ (x5 < 0 ∨ 2800 ≤ x5.toNatClampNeg)) (cO (¬ (x5 < 0 ∨ 2800 ≤ x5.toNatClampNeg)) (oB (F_X12_value N (aI σ5 253 x5.toNatClampNeg) (aI σ5 254 x5.toNatClampNeg) σ5) fun y11 σ12 => cO (¬ (x5 < 0 ∨ 2800 ≤ x5.toNatClampNeg)) (if (aI σ12 251 x5.toNatClampNeg) ≠ 0 then cO (¬ (x5 < 0 ∨ 2800 ≤ x5.toNatClampNeg)) (if (aI σ12 251 x5.toNatClampNeg) ≠ 1 then cO (¬ (x5 < 0 ∨ 2800 ≤ x5.toNatClampNeg)) (if (aI σ12 251 x5.toNatClampNeg) ≠ 2 then if y11 < y4 then J_X12_holds_212 N k27 x1 x2 x4 0 σ12 else J_X12_holds_212 N k27 x1 x2 x4 1 σ12 else if y11 ≤ y4 then J_X12_holds_212 N k27 x1 x2 x4 0 σ12 else J_X12_holds_212 N k27 x1 x2 x4 1 σ12) else if y4 = y11 then J_X12_holds_212 N k27 x1 x2 x4 0 σ12 else J_X12_holds_212 N k27 x1 x2 x4 1 σ12) else if y4 ≠ y11 then J_X12_holds_212 N k27 x1 x2 x4 0 σ12 else J_X12_holds_212 N k27 x1 x2 x4 1 σ12))))) else J_X12_holds_213 N k27 x1 x2 x3 x4 σ
set_option maxRecDepth 20000 in
set_option maxHeartbeats 4000000 in
theorem TJ_X12_holds_76 (xs : Nat → Int32) (L : Nat) (N : Nat) (k27 : Int32 → Int32 → Int32 → Int32 → aSt → Option (Int32 × aSt)) (hk27 : ∀ (x1 : Int32) (x2 : Int32) (x3 : Int32) (x4 : Int32) (d5 : Value) (d6 : Value) (d7 : Value) (σ : aSt) (q : Int32 × aSt), k27 x1 x2 x3 x4 σ = some q → Gr σ → Ev xs L 150 27 [.ref 235, .int x1, .int x2, .int x3, .int x4, d5, d6, d7] [] σ (wI q.1) q.2 ∧ Gr q.2) (x1 : Int32) (x2 : Int32) (x3 : Int32) (x4 : Int32) (x5 : Int32) (d6 : Value) (d7 : Value) (σ : aSt) (q : Int32 × aSt) (h : J_X12_holds_76 N k27 x1 x2 x3 x4 x5 σ = some q) (hG : Gr σ) : Ev xs L 150 76 [.ref 235, .int x1, .int x2, .int x3, .int x4, .int x5, d6, d7] [] σ (wI q.1) q.2 ∧ Gr q.2 := by
  have h : (if x3 ≠ 0 then cO (¬ (x5 < 0 ∨ 2800 ≤ x5.toNatClampNeg)) (cO (¬ (x5 < 0 ∨ 2800 ≤ x5.toNatClampNeg)) (oB (F_X12_value N (aI σ 252 x5.toNatClampNeg) (aI σ 253 x5.toNatClampNeg) σ) fun y4 σ5 => cO (¬ (x5 < 0 ∨ 2800 ≤ x5.toNatClampNeg)) (cO (¬ (x5 < 0 ∨ 2800 ≤ x5.toNatClampNeg)) (oB (F_X12_value N (aI σ5 253 x5.toNatClampNeg) (aI σ5 254 x5.toNatClampNeg) σ5) fun y11 σ12 => cO (¬ (x5 < 0 ∨ 2800 ≤ x5.toNatClampNeg)) (if (aI σ12 251 x5.toNatClampNeg) ≠ 0 then cO (¬ (x5 < 0 ∨ 2800 ≤ x5.toNatClampNeg)) (if (aI σ12 251 x5.toNatClampNeg) ≠ 1 then cO (¬ (x5 < 0 ∨ 2800 ≤ x5.toNatClampNeg)) (if (aI σ12 251 x5.toNatClampNeg) ≠ 2 then if y11 < y4 then J_X12_holds_212 N k27 x1 x2 x4 0 σ12 else J_X12_holds_212 N k27 x1 x2 x4 1 σ12 else if y11 ≤ y4 then J_X12_holds_212 N k27 x1 x2 x4 0 σ12 else J_X12_holds_212 N k27 x1 x2 x4 1 σ12) else if y4 = y11 then J_X12_holds_212 N k27 x1 x2 x4 0 σ12 else J_X12_holds_212 N k27 x1 x2 x4 1 σ12) else if y4 ≠ y11 then J_X12_holds_212 N k27 x1 x2 x4 0 σ12 else J_X12_holds_212 N k27 x1 x2 x4 1 σ12))))) else J_X12_holds_213 N k27 x1 x2 x3 x4 σ) = some q := h
  refine ev_a (fun he => ev_iload rfl rfl he) ?_
  refine ev_b (c := x3 ≠ 0) (fun ht hf => ev_ifne rfl ht hf) (fun hc1 => ?_) (fun hc1 => ?_)
  · rw [if_pos hc1] at h
    refine ev_a (fun he => ev_aload rfl rfl he) ?_
    refine ev_a (fun he => ev_aload rfl rfl he) ?_
    refine ev_a (fun he => ev_getR rfl (gr_ob (n := 80) hG rfl) (gr_p (a := 235) (k := 28) (b := 252) hG rfl) he) ?_
    refine ev_a (fun he => ev_iload rfl rfl he) ?_
    obtain ⟨hc2, h⟩ := cO_inv h
    refine ev_a (fun he => ev_aldI (k := x5.toNatClampNeg) rfl (gr_ar hG rfl) hc2 rfl he) ?_
    refine ev_a (fun he => ev_aload rfl rfl he) ?_
    refine ev_a (fun he => ev_getR rfl (gr_ob (n := 80) hG rfl) (gr_p (a := 235) (k := 29) (b := 253) hG rfl) he) ?_
    refine ev_a (fun he => ev_iload rfl rfl he) ?_
    obtain ⟨hc3, h⟩ := cO_inv h
    refine ev_a (fun he => ev_aldI (k := x5.toNatClampNeg) rfl (gr_ar hG rfl) hc3 rfl he) ?_
    obtain ⟨y4, σ5, h6, h⟩ := oB_inv h
    obtain ⟨c7, hG8⟩ := T_X12_value xs L N (aI σ 252 x5.toNatClampNeg) (aI σ 253 x5.toNatClampNeg) σ (y4, σ5) h6 hG
    refine ev_a (fun he => ev_callV (as := [.int (aI σ 252 x5.toNatClampNeg), .int (aI σ 253 x5.toNatClampNeg)]) rfl (gr_ob (n := 80) hG rfl) rfl rfl rfl (Nat.le_of_ble_eq_true rfl) (Nat.le_of_ble_eq_true rfl) c7 he) ?_
    refine ev_a (fun he => ev_istore (ls' := [.ref 235, .int x1, .int x2, .int x3, .int x4, .int x5, .int y4, d7]) rfl (Nat.le_of_ble_eq_true rfl) rfl he) ?_
    refine ev_a (fun he => ev_aload rfl rfl he) ?_
    refine ev_a (fun he => ev_aload rfl rfl he) ?_
    refine ev_a (fun he => ev_getR rfl (gr_ob (n := 80) hG8 rfl) (gr_p (a := 235) (k := 29) (b := 253) hG8 rfl) he) ?_
    refine ev_a (fun he => ev_iload rfl rfl he) ?_
    obtain ⟨hc9, h⟩ := cO_inv h
    refine ev_a (fun he => ev_aldI (k := x5.toNatClampNeg) rfl (gr_ar hG8 rfl) hc9 rfl he) ?_
    refine ev_a (fun he => ev_aload rfl rfl he) ?_
    refine ev_a (fun he => ev_getR rfl (gr_ob (n := 80) hG8 rfl) (gr_p (a := 235) (k := 30) (b := 254) hG8 rfl) he) ?_
    refine ev_a (fun he => ev_iload rfl rfl he) ?_
    obtain ⟨hc10, h⟩ := cO_inv h
    refine ev_a (fun he => ev_aldI (k := x5.toNatClampNeg) rfl (gr_ar hG8 rfl) hc10 rfl he) ?_
    obtain ⟨y11, σ12, h13, h⟩ := oB_inv h
    obtain ⟨c14, hG15⟩ := T_X12_value xs L N (aI σ5 253 x5.toNatClampNeg) (aI σ5 254 x5.toNatClampNeg) σ5 (y11, σ12) h13 hG8
    refine ev_a (fun he => ev_callV (as := [.int (aI σ5 253 x5.toNatClampNeg), .int (aI σ5 254 x5.toNatClampNeg)]) rfl (gr_ob (n := 80) hG8 rfl) rfl rfl rfl (Nat.le_of_ble_eq_true rfl) (Nat.le_of_ble_eq_true rfl) c14 he) ?_
    refine ev_a (fun he => ev_istore (ls' := [.ref 235, .int x1, .int x2, .int x3, .int x4, .int x5, .int y4, .int y11]) rfl (Nat.le_of_ble_eq_true rfl) rfl he) ?_
    refine ev_a (fun he => ev_aload rfl rfl he) ?_
    refine ev_a (fun he => ev_getR rfl (gr_ob (n := 80) hG15 rfl) (gr_p (a := 235) (k := 27) (b := 251) hG15 rfl) he) ?_
    refine ev_a (fun he => ev_iload rfl rfl he) ?_
    obtain ⟨hc16, h⟩ := cO_inv h
    refine ev_a (fun he => ev_aldI (k := x5.toNatClampNeg) rfl (gr_ar hG15 rfl) hc16 rfl he) ?_
    refine ev_b (c := (aI σ12 251 x5.toNatClampNeg) ≠ 0) (fun ht hf => ev_ifne rfl ht hf) (fun hc17 => ?_) (fun hc17 => ?_)
    · rw [if_pos hc17] at h
      refine ev_a (fun he => ev_aload rfl rfl he) ?_
      refine ev_a (fun he => ev_getR rfl (gr_ob (n := 80) hG15 rfl) (gr_p (a := 235) (k := 27) (b := 251) hG15 rfl) he) ?_
      refine ev_a (fun he => ev_iload rfl rfl he) ?_
      obtain ⟨hc18, h⟩ := cO_inv h
      refine ev_a (fun he => ev_aldI (k := x5.toNatClampNeg) rfl (gr_ar hG15 rfl) hc18 rfl he) ?_
      refine ev_a (fun he => ev_push rfl he) ?_
      refine ev_b (c := (aI σ12 251 x5.toNatClampNeg) ≠ 1) (fun ht hf => ev_cne rfl ht hf) (fun hc19 => ?_) (fun hc19 => ?_)
      · rw [if_pos hc19] at h
        refine ev_a (fun he => ev_aload rfl rfl he) ?_
        refine ev_a (fun he => ev_getR rfl (gr_ob (n := 80) hG15 rfl) (gr_p (a := 235) (k := 27) (b := 251) hG15 rfl) he) ?_
        refine ev_a (fun he => ev_iload rfl rfl he) ?_
        obtain ⟨hc20, h⟩ := cO_inv h
        refine ev_a (fun he => ev_aldI (k := x5.toNatClampNeg) rfl (gr_ar hG15 rfl) hc20 rfl he) ?_
        refine ev_a (fun he => ev_push rfl he) ?_
        refine ev_b (c := (aI σ12 251 x5.toNatClampNeg) ≠ 2) (fun ht hf => ev_cne rfl ht hf) (fun hc21 => ?_) (fun hc21 => ?_)
        · rw [if_pos hc21] at h
          refine ev_a (fun he => ev_iload rfl rfl he) ?_
          refine ev_a (fun he => ev_iload rfl rfl he) ?_
          refine ev_b (c := y11 < y4) (fun ht hf => ev_cgt rfl ht hf) (fun hc22 => ?_) (fun hc22 => ?_)
          · rw [if_pos hc22] at h
            refine ev_a (fun he => ev_push rfl he) ?_
            exact TJ_X12_holds_212 xs L N k27 hk27 x1 x2 x4 0 (.int x3) (.int x5) (.int y4) (.int y11) σ12 q h hG15
          · rw [if_neg hc22] at h
            refine ev_a (fun he => ev_push rfl he) ?_
            refine ev_a (fun he => ev_goto rfl he) ?_
            exact TJ_X12_holds_212 xs L N k27 hk27 x1 x2 x4 1 (.int x3) (.int x5) (.int y4) (.int y11) σ12 q h hG15
        · rw [if_neg hc21] at h
          refine ev_a (fun he => ev_iload rfl rfl he) ?_
          refine ev_a (fun he => ev_iload rfl rfl he) ?_
          refine ev_b (c := y11 ≤ y4) (fun ht hf => ev_cge rfl ht hf) (fun hc23 => ?_) (fun hc23 => ?_)
          · rw [if_pos hc23] at h
            refine ev_a (fun he => ev_push rfl he) ?_
            refine ev_a (fun he => ev_goto rfl he) ?_
            exact TJ_X12_holds_212 xs L N k27 hk27 x1 x2 x4 0 (.int x3) (.int x5) (.int y4) (.int y11) σ12 q h hG15
          · rw [if_neg hc23] at h
            refine ev_a (fun he => ev_push rfl he) ?_
            refine ev_a (fun he => ev_goto rfl he) ?_
            exact TJ_X12_holds_212 xs L N k27 hk27 x1 x2 x4 1 (.int x3) (.int x5) (.int y4) (.int y11) σ12 q h hG15
      · rw [if_neg hc19] at h
        refine ev_a (fun he => ev_iload rfl rfl he) ?_
        refine ev_a (fun he => ev_iload rfl rfl he) ?_
        refine ev_b (c := y4 = y11) (fun ht hf => ev_ceq rfl ht hf) (fun hc24 => ?_) (fun hc24 => ?_)
        · rw [if_pos hc24] at h
          refine ev_a (fun he => ev_push rfl he) ?_
          refine ev_a (fun he => ev_goto rfl he) ?_
          exact TJ_X12_holds_212 xs L N k27 hk27 x1 x2 x4 0 (.int x3) (.int x5) (.int y4) (.int y11) σ12 q h hG15
        · rw [if_neg hc24] at h
          refine ev_a (fun he => ev_push rfl he) ?_
          refine ev_a (fun he => ev_goto rfl he) ?_
          exact TJ_X12_holds_212 xs L N k27 hk27 x1 x2 x4 1 (.int x3) (.int x5) (.int y4) (.int y11) σ12 q h hG15
    · rw [if_neg hc17] at h
      refine ev_a (fun he => ev_iload rfl rfl he) ?_
      refine ev_a (fun he => ev_iload rfl rfl he) ?_
      refine ev_b (c := y4 ≠ y11) (fun ht hf => ev_cne rfl ht hf) (fun hc25 => ?_) (fun hc25 => ?_)
      · rw [if_pos hc25] at h
        refine ev_a (fun he => ev_push rfl he) ?_
        refine ev_a (fun he => ev_goto rfl he) ?_
        exact TJ_X12_holds_212 xs L N k27 hk27 x1 x2 x4 0 (.int x3) (.int x5) (.int y4) (.int y11) σ12 q h hG15
      · rw [if_neg hc25] at h
        refine ev_a (fun he => ev_push rfl he) ?_
        refine ev_a (fun he => ev_goto rfl he) ?_
        exact TJ_X12_holds_212 xs L N k27 hk27 x1 x2 x4 1 (.int x3) (.int x5) (.int y4) (.int y11) σ12 q h hG15
  · rw [if_neg hc1] at h
    refine ev_a (fun he => ev_goto rfl he) ?_
    exact TJ_X12_holds_213 xs L N k27 hk27 x1 x2 x3 x4 (.int x5) (d6) (d7) σ q h hG
def J_X12_holds_64 (N : Nat) (k27 : Int32 → Int32 → Int32 → Int32 → aSt → Option (Int32 × aSt)) (x1 : Int32) (x2 : Int32) (x3 : Int32) (x4 : Int32) (x5 : Int32) (σ : aSt) : Option (Int32 × aSt) := cO (¬ (x5 < 0 ∨ 2800 ≤ x5.toNatClampNeg)) (if (aI σ 255 x5.toNatClampNeg) = 0 then J_X12_holds_76 N k27 x1 x2 x3 x4 x5 σ else J_X12_holds_76 N k27 x1 x2 1 x4 x5 σ)
set_option maxRecDepth 20000 in
set_option maxHeartbeats 4000000 in
theorem TJ_X12_holds_64 (xs : Nat → Int32) (L : Nat) (N : Nat) (k27 : Int32 → Int32 → Int32 → Int32 → aSt → Option (Int32 × aSt)) (hk27 : ∀ (x1 : Int32) (x2 : Int32) (x3 : Int32) (x4 : Int32) (d5 : Value) (d6 : Value) (d7 : Value) (σ : aSt) (q : Int32 × aSt), k27 x1 x2 x3 x4 σ = some q → Gr σ → Ev xs L 150 27 [.ref 235, .int x1, .int x2, .int x3, .int x4, d5, d6, d7] [] σ (wI q.1) q.2 ∧ Gr q.2) (x1 : Int32) (x2 : Int32) (x3 : Int32) (x4 : Int32) (x5 : Int32) (d6 : Value) (d7 : Value) (σ : aSt) (q : Int32 × aSt) (h : J_X12_holds_64 N k27 x1 x2 x3 x4 x5 σ = some q) (hG : Gr σ) : Ev xs L 150 64 [.ref 235, .int x1, .int x2, .int x3, .int x4, .int x5, d6, d7] [] σ (wI q.1) q.2 ∧ Gr q.2 := by
  have h : (cO (¬ (x5 < 0 ∨ 2800 ≤ x5.toNatClampNeg)) (if (aI σ 255 x5.toNatClampNeg) = 0 then J_X12_holds_76 N k27 x1 x2 x3 x4 x5 σ else J_X12_holds_76 N k27 x1 x2 1 x4 x5 σ)) = some q := h
  refine ev_a (fun he => ev_aload rfl rfl he) ?_
  refine ev_a (fun he => ev_getR rfl (gr_ob (n := 80) hG rfl) (gr_p (a := 235) (k := 31) (b := 255) hG rfl) he) ?_
  refine ev_a (fun he => ev_iload rfl rfl he) ?_
  obtain ⟨hc26, h⟩ := cO_inv h
  refine ev_a (fun he => ev_aldI (k := x5.toNatClampNeg) rfl (gr_ar hG rfl) hc26 rfl he) ?_
  refine ev_b (c := (aI σ 255 x5.toNatClampNeg) = 0) (fun ht hf => ev_ifeq rfl ht hf) (fun hc27 => ?_) (fun hc27 => ?_)
  · rw [if_pos hc27] at h
    exact TJ_X12_holds_76 xs L N k27 hk27 x1 x2 x3 x4 x5 (d6) (d7) σ q h hG
  · rw [if_neg hc27] at h
    refine ev_a (fun he => ev_push rfl he) ?_
    refine ev_a (fun he => ev_istore (ls' := [.ref 235, .int x1, .int x2, .int 1, .int x4, .int x5, d6, d7]) rfl (Nat.le_of_ble_eq_true rfl) rfl he) ?_
    exact TJ_X12_holds_76 xs L N k27 hk27 x1 x2 1 x4 x5 (d6) (d7) σ q h hG
def H_X12_holds_27 (N : Nat) : Nat → Int32 → Int32 → Int32 → Int32 → aSt → Option (Int32 × aSt)
  | 0, _, _, _, _, _ => none
  | n + 1, x1, x2, x3, x4, σ => cO (¬ (x1 < 0 ∨ 280 ≤ x1.toNatClampNeg)) (if (aI σ 249 x1.toNatClampNeg) ≤ x4 then cO (vp_nar .boolean x3 = x3) (some (x3, σ)) else cO (¬ (((200 * x2) + x4) < 0 ∨ 2800 ≤ ((200 * x2) + x4).toNatClampNeg)) (if (aI σ 255 ((200 * x2) + x4).toNatClampNeg) = 0 then J_X12_holds_64 N (H_X12_holds_27 N n) x1 x2 x3 x4 ((200 * x2) + x4) σ else if x3 = 0 then J_X12_holds_64 N (H_X12_holds_27 N n) x1 x2 x3 x4 ((200 * x2) + x4) σ else cO (vp_nar .boolean 1 = 1) (some (1, σ))))
set_option maxRecDepth 20000 in
set_option maxHeartbeats 4000000 in
theorem TH_X12_holds_27 (xs : Nat → Int32) (L : Nat) (N : Nat) : ∀ (n : Nat) (x1 : Int32) (x2 : Int32) (x3 : Int32) (x4 : Int32) (d5 : Value) (d6 : Value) (d7 : Value) (σ : aSt) (q : Int32 × aSt), H_X12_holds_27 N n x1 x2 x3 x4 σ = some q → Gr σ → Ev xs L 150 27 [.ref 235, .int x1, .int x2, .int x3, .int x4, d5, d6, d7] [] σ (wI q.1) q.2 ∧ Gr q.2 := by
  intro n
  induction n with
  | zero =>
    intro x1 x2 x3 x4 d5 d6 d7 σ q h hG
    exact absurd (show (none : Option (Int32 × aSt)) = some q from h) (by simp)
  | succ n ih =>
    intro x1 x2 x3 x4 d5 d6 d7 σ q h hG
    have hk27 : ∀ (x1 : Int32) (x2 : Int32) (x3 : Int32) (x4 : Int32) (d5 : Value) (d6 : Value) (d7 : Value) (σ : aSt) (q : Int32 × aSt), H_X12_holds_27 N n x1 x2 x3 x4 σ = some q → Gr σ → Ev xs L 150 27 [.ref 235, .int x1, .int x2, .int x3, .int x4, d5, d6, d7] [] σ (wI q.1) q.2 ∧ Gr q.2 := ih
    have h : (cO (¬ (x1 < 0 ∨ 280 ≤ x1.toNatClampNeg)) (if (aI σ 249 x1.toNatClampNeg) ≤ x4 then cO (vp_nar .boolean x3 = x3) (some (x3, σ)) else cO (¬ (((200 * x2) + x4) < 0 ∨ 2800 ≤ ((200 * x2) + x4).toNatClampNeg)) (if (aI σ 255 ((200 * x2) + x4).toNatClampNeg) = 0 then J_X12_holds_64 N (H_X12_holds_27 N n) x1 x2 x3 x4 ((200 * x2) + x4) σ else if x3 = 0 then J_X12_holds_64 N (H_X12_holds_27 N n) x1 x2 x3 x4 ((200 * x2) + x4) σ else cO (vp_nar .boolean 1 = 1) (some (1, σ))))) = some q := h
    refine ev_a (fun he => ev_iload rfl rfl he) ?_
    refine ev_a (fun he => ev_aload rfl rfl he) ?_
    refine ev_a (fun he => ev_getR rfl (gr_ob (n := 80) hG rfl) (gr_p (a := 235) (k := 25) (b := 249) hG rfl) he) ?_
    refine ev_a (fun he => ev_iload rfl rfl he) ?_
    obtain ⟨hc28, h⟩ := cO_inv h
    refine ev_a (fun he => ev_aldI (k := x1.toNatClampNeg) rfl (gr_ar hG rfl) hc28 rfl he) ?_
    refine ev_b (c := (aI σ 249 x1.toNatClampNeg) ≤ x4) (fun ht hf => ev_cge rfl ht hf) (fun hc29 => ?_) (fun hc29 => ?_)
    · rw [if_pos hc29] at h
      refine ev_a (fun he => ev_iload rfl rfl he) ?_
      obtain ⟨hc30, h⟩ := cO_inv h
      cases h
      exact ⟨ev_retZ rfl hc30, hG⟩
    · rw [if_neg hc29] at h
      refine ev_a (fun he => ev_push rfl he) ?_
      refine ev_a (fun he => ev_iload rfl rfl he) ?_
      refine ev_a (fun he => ev_bin (z := 200 * x2) rfl rfl he) ?_
      refine ev_a (fun he => ev_iload rfl rfl he) ?_
      refine ev_a (fun he => ev_bin (z := (200 * x2) + x4) rfl rfl he) ?_
      refine ev_a (fun he => ev_istore (ls' := [.ref 235, .int x1, .int x2, .int x3, .int x4, .int ((200 * x2) + x4), d6, d7]) rfl (Nat.le_of_ble_eq_true rfl) rfl he) ?_
      refine ev_a (fun he => ev_aload rfl rfl he) ?_
      refine ev_a (fun he => ev_getR rfl (gr_ob (n := 80) hG rfl) (gr_p (a := 235) (k := 31) (b := 255) hG rfl) he) ?_
      refine ev_a (fun he => ev_iload rfl rfl he) ?_
      obtain ⟨hc31, h⟩ := cO_inv h
      refine ev_a (fun he => ev_aldI (k := ((200 * x2) + x4).toNatClampNeg) rfl (gr_ar hG rfl) hc31 rfl he) ?_
      refine ev_b (c := (aI σ 255 ((200 * x2) + x4).toNatClampNeg) = 0) (fun ht hf => ev_ifeq rfl ht hf) (fun hc32 => ?_) (fun hc32 => ?_)
      · rw [if_pos hc32] at h
        exact TJ_X12_holds_64 xs L N (H_X12_holds_27 N n) hk27 x1 x2 x3 x4 ((200 * x2) + x4) (d6) (d7) σ q h hG
      · rw [if_neg hc32] at h
        refine ev_a (fun he => ev_iload rfl rfl he) ?_
        refine ev_b (c := x3 = 0) (fun ht hf => ev_ifeq rfl ht hf) (fun hc33 => ?_) (fun hc33 => ?_)
        · rw [if_pos hc33] at h
          exact TJ_X12_holds_64 xs L N (H_X12_holds_27 N n) hk27 x1 x2 x3 x4 ((200 * x2) + x4) (d6) (d7) σ q h hG
        · rw [if_neg hc33] at h
          refine ev_a (fun he => ev_push rfl he) ?_
          obtain ⟨hc34, h⟩ := cO_inv h
          cases h
          exact ⟨ev_retZ rfl hc34, hG⟩
def F_X12_holds (N : Nat) (x1 : Int32) (x2 : Int32) (σ : aSt) : Option (Int32 × aSt) := cO (¬ (x1 < 0 ∨ 280 ≤ x1.toNatClampNeg)) (cO (¬ (x1 < 0 ∨ 280 ≤ x1.toNatClampNeg)) (if (aI σ 248 x1.toNatClampNeg) ≠ (aI σ 249 x1.toNatClampNeg) then cO (¬ (x1 < 0 ∨ 280 ≤ x1.toNatClampNeg)) (H_X12_holds_27 N N x1 x2 0 (aI σ 248 x1.toNatClampNeg) σ) else cO (vp_nar .boolean 1 = 1) (some (1, σ))))
set_option maxRecDepth 20000 in
set_option maxHeartbeats 4000000 in
theorem T_X12_holds (xs : Nat → Int32) (L : Nat) (N : Nat) (x1 : Int32) (x2 : Int32) (σ : aSt) (q : Int32 × aSt) (h : F_X12_holds N x1 x2 σ = some q) (hG : Gr σ) : Cal xs L 150 [.ref 235, .int x1, .int x2] σ (wI q.1) q.2 ∧ Gr q.2 := by
  have h : (cO (¬ (x1 < 0 ∨ 280 ≤ x1.toNatClampNeg)) (cO (¬ (x1 < 0 ∨ 280 ≤ x1.toNatClampNeg)) (if (aI σ 248 x1.toNatClampNeg) ≠ (aI σ 249 x1.toNatClampNeg) then cO (¬ (x1 < 0 ∨ 280 ≤ x1.toNatClampNeg)) (H_X12_holds_27 N N x1 x2 0 (aI σ 248 x1.toNatClampNeg) σ) else cO (vp_nar .boolean 1 = 1) (some (1, σ))))) = some q := h
  show Ev xs L 150 0 [.ref 235, .int x1, .int x2, aU, aU, aU, aU, aU] [] σ (wI q.1) q.2 ∧ Gr q.2
  refine ev_a (fun he => ev_aload rfl rfl he) ?_
  refine ev_a (fun he => ev_getR rfl (gr_ob (n := 80) hG rfl) (gr_p (a := 235) (k := 24) (b := 248) hG rfl) he) ?_
  refine ev_a (fun he => ev_iload rfl rfl he) ?_
  obtain ⟨hc35, h⟩ := cO_inv h
  refine ev_a (fun he => ev_aldI (k := x1.toNatClampNeg) rfl (gr_ar hG rfl) hc35 rfl he) ?_
  refine ev_a (fun he => ev_aload rfl rfl he) ?_
  refine ev_a (fun he => ev_getR rfl (gr_ob (n := 80) hG rfl) (gr_p (a := 235) (k := 25) (b := 249) hG rfl) he) ?_
  refine ev_a (fun he => ev_iload rfl rfl he) ?_
  obtain ⟨hc36, h⟩ := cO_inv h
  refine ev_a (fun he => ev_aldI (k := x1.toNatClampNeg) rfl (gr_ar hG rfl) hc36 rfl he) ?_
  refine ev_b (c := (aI σ 248 x1.toNatClampNeg) ≠ (aI σ 249 x1.toNatClampNeg)) (fun ht hf => ev_cne rfl ht hf) (fun hc37 => ?_) (fun hc37 => ?_)
  · rw [if_pos hc37] at h
    refine ev_a (fun he => ev_push rfl he) ?_
    refine ev_a (fun he => ev_istore (ls' := [.ref 235, .int x1, .int x2, .int 0, aU, aU, aU, aU]) rfl (Nat.le_of_ble_eq_true rfl) rfl he) ?_
    refine ev_a (fun he => ev_aload rfl rfl he) ?_
    refine ev_a (fun he => ev_getR rfl (gr_ob (n := 80) hG rfl) (gr_p (a := 235) (k := 24) (b := 248) hG rfl) he) ?_
    refine ev_a (fun he => ev_iload rfl rfl he) ?_
    obtain ⟨hc38, h⟩ := cO_inv h
    refine ev_a (fun he => ev_aldI (k := x1.toNatClampNeg) rfl (gr_ar hG rfl) hc38 rfl he) ?_
    refine ev_a (fun he => ev_istore (ls' := [.ref 235, .int x1, .int x2, .int 0, .int (aI σ 248 x1.toNatClampNeg), aU, aU, aU]) rfl (Nat.le_of_ble_eq_true rfl) rfl he) ?_
    exact TH_X12_holds_27 xs L N N x1 x2 0 (aI σ 248 x1.toNatClampNeg) (aU) (aU) (aU) σ q h hG
  · rw [if_neg hc37] at h
    refine ev_a (fun he => ev_push rfl he) ?_
    obtain ⟨hc39, h⟩ := cO_inv h
    cases h
    exact ⟨ev_retZ rfl hc39, hG⟩
def J_X12_ruleOf_59 (N : Nat) (k14 : Int32 → Int32 → Int32 → aSt → Option (Int32 × aSt)) (x2 : Int32) (x3 : Int32) (x4 : Int32) (σ : aSt) : Option (Int32 × aSt) := k14 x2 x3 (x4 + 1) σ
set_option maxRecDepth 20000 in
set_option maxHeartbeats 4000000 in
theorem TJ_X12_ruleOf_59 (xs : Nat → Int32) (L : Nat) (N : Nat) (k14 : Int32 → Int32 → Int32 → aSt → Option (Int32 × aSt)) (hk14 : ∀ (x2 : Int32) (x3 : Int32) (x4 : Int32) (d1 : Value) (σ : aSt) (q : Int32 × aSt), k14 x2 x3 x4 σ = some q → Gr σ → Ev xs L 151 14 [.ref 235, d1, .int x2, .int x3, .int x4] [] σ (wI q.1) q.2 ∧ Gr q.2) (x2 : Int32) (x3 : Int32) (x4 : Int32) (d1 : Value) (σ : aSt) (q : Int32 × aSt) (h : J_X12_ruleOf_59 N k14 x2 x3 x4 σ = some q) (hG : Gr σ) : Ev xs L 151 59 [.ref 235, d1, .int x2, .int x3, .int x4] [] σ (wI q.1) q.2 ∧ Gr q.2 := by
  have h : (k14 x2 x3 (x4 + 1) σ) = some q := h
  refine ev_a (fun he => ev_iinc (ls' := [.ref 235, d1, .int x2, .int x3, .int (x4 + 1)]) rfl rfl rfl (Nat.le_of_ble_eq_true rfl) rfl he) ?_
  refine ev_a (fun he => ev_goto rfl he) ?_
  exact hk14 x2 x3 (x4 + 1) (d1) σ q h hG
def H_X12_ruleOf_14 (N : Nat) : Nat → Int32 → Int32 → Int32 → aSt → Option (Int32 × aSt)
  | 0, _, _, _, _ => none
  | n + 1, x2, x3, x4, σ => cO (¬ (x3 < 0 ∨ 14 ≤ x3.toNatClampNeg)) (if (aI σ 244 x3.toNatClampNeg) ≤ x4 then some ((-1), σ) else cO (¬ (((20 * x3) + x4) < 0 ∨ 280 ≤ ((20 * x3) + x4).toNatClampNeg)) (if (aI σ 245 ((20 * x3) + x4).toNatClampNeg) ≠ x2 then J_X12_ruleOf_59 N (H_X12_ruleOf_14 N n) x2 x3 x4 σ else oB (F_X12_holds N ((20 * x3) + x4) x3 σ) fun y5 σ6 => if y5 = 0 then J_X12_ruleOf_59 N (H_X12_ruleOf_14 N n) x2 x3 x4 σ6 else some (x4, σ6)))
set_option maxRecDepth 20000 in
set_option maxHeartbeats 4000000 in
theorem TH_X12_ruleOf_14 (xs : Nat → Int32) (L : Nat) (N : Nat) : ∀ (n : Nat) (x2 : Int32) (x3 : Int32) (x4 : Int32) (d1 : Value) (σ : aSt) (q : Int32 × aSt), H_X12_ruleOf_14 N n x2 x3 x4 σ = some q → Gr σ → Ev xs L 151 14 [.ref 235, d1, .int x2, .int x3, .int x4] [] σ (wI q.1) q.2 ∧ Gr q.2 := by
  intro n
  induction n with
  | zero =>
    intro x2 x3 x4 d1 σ q h hG
    exact absurd (show (none : Option (Int32 × aSt)) = some q from h) (by simp)
  | succ n ih =>
    intro x2 x3 x4 d1 σ q h hG
    have hk14 : ∀ (x2 : Int32) (x3 : Int32) (x4 : Int32) (d1 : Value) (σ : aSt) (q : Int32 × aSt), H_X12_ruleOf_14 N n x2 x3 x4 σ = some q → Gr σ → Ev xs L 151 14 [.ref 235, d1, .int x2, .int x3, .int x4] [] σ (wI q.1) q.2 ∧ Gr q.2 := ih
    have h : (cO (¬ (x3 < 0 ∨ 14 ≤ x3.toNatClampNeg)) (if (aI σ 244 x3.toNatClampNeg) ≤ x4 then some ((-1), σ) else cO (¬ (((20 * x3) + x4) < 0 ∨ 280 ≤ ((20 * x3) + x4).toNatClampNeg)) (if (aI σ 245 ((20 * x3) + x4).toNatClampNeg) ≠ x2 then J_X12_ruleOf_59 N (H_X12_ruleOf_14 N n) x2 x3 x4 σ else oB (F_X12_holds N ((20 * x3) + x4) x3 σ) fun y5 σ6 => if y5 = 0 then J_X12_ruleOf_59 N (H_X12_ruleOf_14 N n) x2 x3 x4 σ6 else some (x4, σ6)))) = some q := h
    refine ev_a (fun he => ev_iload rfl rfl he) ?_
    refine ev_a (fun he => ev_aload rfl rfl he) ?_
    refine ev_a (fun he => ev_getR rfl (gr_ob (n := 80) hG rfl) (gr_p (a := 235) (k := 20) (b := 244) hG rfl) he) ?_
    refine ev_a (fun he => ev_iload rfl rfl he) ?_
    obtain ⟨hc1, h⟩ := cO_inv h
    refine ev_a (fun he => ev_aldI (k := x3.toNatClampNeg) rfl (gr_ar hG rfl) hc1 rfl he) ?_
    refine ev_b (c := (aI σ 244 x3.toNatClampNeg) ≤ x4) (fun ht hf => ev_cge rfl ht hf) (fun hc2 => ?_) (fun hc2 => ?_)
    · rw [if_pos hc2] at h
      refine ev_a (fun he => ev_push rfl he) ?_
      cases h
      exact ⟨ev_retI rfl, hG⟩
    · rw [if_neg hc2] at h
      refine ev_a (fun he => ev_aload rfl rfl he) ?_
      refine ev_a (fun he => ev_getR rfl (gr_ob (n := 80) hG rfl) (gr_p (a := 235) (k := 21) (b := 245) hG rfl) he) ?_
      refine ev_a (fun he => ev_push rfl he) ?_
      refine ev_a (fun he => ev_iload rfl rfl he) ?_
      refine ev_a (fun he => ev_bin (z := 20 * x3) rfl rfl he) ?_
      refine ev_a (fun he => ev_iload rfl rfl he) ?_
      refine ev_a (fun he => ev_bin (z := (20 * x3) + x4) rfl rfl he) ?_
      obtain ⟨hc3, h⟩ := cO_inv h
      refine ev_a (fun he => ev_aldI (k := ((20 * x3) + x4).toNatClampNeg) rfl (gr_ar hG rfl) hc3 rfl he) ?_
      refine ev_a (fun he => ev_iload rfl rfl he) ?_
      refine ev_b (c := (aI σ 245 ((20 * x3) + x4).toNatClampNeg) ≠ x2) (fun ht hf => ev_cne rfl ht hf) (fun hc4 => ?_) (fun hc4 => ?_)
      · rw [if_pos hc4] at h
        exact TJ_X12_ruleOf_59 xs L N (H_X12_ruleOf_14 N n) hk14 x2 x3 x4 (d1) σ q h hG
      · rw [if_neg hc4] at h
        refine ev_a (fun he => ev_aload rfl rfl he) ?_
        refine ev_a (fun he => ev_push rfl he) ?_
        refine ev_a (fun he => ev_iload rfl rfl he) ?_
        refine ev_a (fun he => ev_bin (z := 20 * x3) rfl rfl he) ?_
        refine ev_a (fun he => ev_iload rfl rfl he) ?_
        refine ev_a (fun he => ev_bin (z := (20 * x3) + x4) rfl rfl he) ?_
        refine ev_a (fun he => ev_iload rfl rfl he) ?_
        obtain ⟨y5, σ6, h7, h⟩ := oB_inv h
        obtain ⟨c8, hG9⟩ := T_X12_holds xs L N ((20 * x3) + x4) x3 σ (y5, σ6) h7 hG
        refine ev_a (fun he => ev_callV (as := [.int ((20 * x3) + x4), .int x3]) rfl (gr_ob (n := 80) hG rfl) rfl rfl rfl (Nat.le_of_ble_eq_true rfl) (Nat.le_of_ble_eq_true rfl) c8 he) ?_
        refine ev_b (c := y5 = 0) (fun ht hf => ev_ifeq rfl ht hf) (fun hc10 => ?_) (fun hc10 => ?_)
        · rw [if_pos hc10] at h
          exact TJ_X12_ruleOf_59 xs L N (H_X12_ruleOf_14 N n) hk14 x2 x3 x4 (d1) σ6 q h hG9
        · rw [if_neg hc10] at h
          refine ev_a (fun he => ev_iload rfl rfl he) ?_
          cases h
          exact ⟨ev_retI rfl, hG9⟩
def F_X12_ruleOf (N : Nat) (x1 : Int32) (x2 : Int32) (σ : aSt) : Option (Int32 × aSt) := cO (¬ (x1 < 0 ∨ 7 ≤ x1.toNatClampNeg)) (H_X12_ruleOf_14 N N x2 ((2 * x1) + (aI σ 243 x1.toNatClampNeg)) 0 σ)
set_option maxRecDepth 20000 in
set_option maxHeartbeats 4000000 in
theorem T_X12_ruleOf (xs : Nat → Int32) (L : Nat) (N : Nat) (x1 : Int32) (x2 : Int32) (σ : aSt) (q : Int32 × aSt) (h : F_X12_ruleOf N x1 x2 σ = some q) (hG : Gr σ) : Cal xs L 151 [.ref 235, .int x1, .int x2] σ (wI q.1) q.2 ∧ Gr q.2 := by
  have h : (cO (¬ (x1 < 0 ∨ 7 ≤ x1.toNatClampNeg)) (H_X12_ruleOf_14 N N x2 ((2 * x1) + (aI σ 243 x1.toNatClampNeg)) 0 σ)) = some q := h
  show Ev xs L 151 0 [.ref 235, .int x1, .int x2, aU, aU] [] σ (wI q.1) q.2 ∧ Gr q.2
  refine ev_a (fun he => ev_push rfl he) ?_
  refine ev_a (fun he => ev_iload rfl rfl he) ?_
  refine ev_a (fun he => ev_bin (z := 2 * x1) rfl rfl he) ?_
  refine ev_a (fun he => ev_aload rfl rfl he) ?_
  refine ev_a (fun he => ev_getR rfl (gr_ob (n := 80) hG rfl) (gr_p (a := 235) (k := 18) (b := 243) hG rfl) he) ?_
  refine ev_a (fun he => ev_iload rfl rfl he) ?_
  obtain ⟨hc11, h⟩ := cO_inv h
  refine ev_a (fun he => ev_aldI (k := x1.toNatClampNeg) rfl (gr_ar hG rfl) hc11 rfl he) ?_
  refine ev_a (fun he => ev_bin (z := (2 * x1) + (aI σ 243 x1.toNatClampNeg)) rfl rfl he) ?_
  refine ev_a (fun he => ev_istore (ls' := [.ref 235, .int x1, .int x2, .int ((2 * x1) + (aI σ 243 x1.toNatClampNeg)), aU]) rfl (Nat.le_of_ble_eq_true rfl) rfl he) ?_
  refine ev_a (fun he => ev_push rfl he) ?_
  refine ev_a (fun he => ev_istore (ls' := [.ref 235, .int x1, .int x2, .int ((2 * x1) + (aI σ 243 x1.toNatClampNeg)), .int 0]) rfl (Nat.le_of_ble_eq_true rfl) rfl he) ?_
  exact TH_X12_ruleOf_14 xs L N N x2 ((2 * x1) + (aI σ 243 x1.toNatClampNeg)) 0 (.int x1) σ q h hG
