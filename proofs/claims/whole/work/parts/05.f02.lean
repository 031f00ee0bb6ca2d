def J_X10_firstThatHolds_69 (N : Nat) (k2 : Nat → Int32 → Int32 → aSt → Option (Int32 × aSt)) (x0 : Nat) (x1 : Int32) (x3 : Int32) (σ : aSt) : Option (Int32 × aSt) := k2 x0 x1 (x3 + 1) σ
set_option maxRecDepth 20000 in
set_option maxHeartbeats 4000000 in
theorem TJ_X10_firstThatHolds_69 (xs : Nat → Int32) (L : Nat) (N : Nat) (k2 : Nat → Int32 → Int32 → aSt → Option (Int32 × aSt)) (hk2 : ∀ (x0 : Nat) (x1 : Int32) (x3 : Int32) (d4 : Value) (σ : aSt) (q : Int32 × aSt), k2 x0 x1 x3 σ = some q → Gr σ → isTx x0 → Ev xs L 88 2 [.ref x0, .int x1, .ref 22, .int x3, d4] [] σ (wI q.1) q.2 ∧ Gr q.2) (x0 : Nat) (x1 : Int32) (x3 : Int32) (d4 : Value) (σ : aSt) (q : Int32 × aSt) (h : J_X10_firstThatHolds_69 N k2 x0 x1 x3 σ = some q) (hG : Gr σ) (hx0 : isTx x0) : Ev xs L 88 69 [.ref x0, .int x1, .ref 22, .int x3, d4] [] σ (wI q.1) q.2 ∧ Gr q.2 := by
  have h : (k2 x0 x1 (x3 + 1) σ) = some q := h
  refine ev_a (fun he => ev_iinc (ls' := [.ref x0, .int x1, .ref 22, .int (x3 + 1), d4]) rfl rfl rfl (Nat.le_of_ble_eq_true rfl) rfl he) ?_
  refine ev_a (fun he => ev_goto rfl he) ?_
  exact hk2 x0 x1 (x3 + 1) (d4) σ q h hG hx0
def J_X10_firstThatHolds_67 (N : Nat) (x3 : Int32) (σ : aSt) : Option (Int32 × aSt) := some (x3, σ)
set_option maxRecDepth 20000 in
set_option maxHeartbeats 4000000 in
theorem TJ_X10_firstThatHolds_67 (xs : Nat → Int32) (L : Nat) (N : Nat) (x3 : Int32) (d0 : Value) (d1 : Value) (d2 : Value) (d4 : Value) (σ : aSt) (q : Int32 × aSt) (h : J_X10_firstThatHolds_67 N x3 σ = some q) (hG : Gr σ) : Ev xs L 88 67 [d0, d1, d2, .int x3, d4] [] σ (wI q.1) q.2 ∧ Gr q.2 := by
  have h : (some (x3, σ)) = some q := h
  refine ev_a (fun he => ev_iload rfl rfl he) ?_
  cases h
  exact ⟨ev_retI rfl, hG⟩
def J_X10_firstThatHolds_30 (N : Nat) (k2 : Nat → Int32 → Int32 → aSt → Option (Int32 × aSt)) (x0 : Nat) (x1 : Int32) (x3 : Int32) (s0 : Int32) (σ : aSt) : Option (Int32 × aSt) := cO (¬ (x3 < 0 ∨ 20 ≤ x3.toNatClampNeg)) (if (aI σ (x0 + 1) x3.toNatClampNeg) ≠ x1 then J_X10_firstThatHolds_69 N k2 x0 x1 x3 σ else if s0 ≠ 0 then J_X10_firstThatHolds_67 N x3 σ else cO (¬ (x3 < 0 ∨ 20 ≤ x3.toNatClampNeg)) (cO (¬ (x3 < 0 ∨ 20 ≤ x3.toNatClampNeg)) (oB (F_X10_compute N x0 (aI σ (x0 + 3) x3.toNatClampNeg) (aI σ (x0 + 4) x3.toNatClampNeg) σ) fun y6 σ7 => if y6 = 0 then J_X10_firstThatHolds_69 N k2 x0 x1 x3 σ7 else J_X10_firstThatHolds_67 N x3 σ7)))
set_option maxRecDepth 20000 in
set_option maxHeartbeats 4000000 in
theorem TJ_X10_firstThatHolds_30 (xs : Nat → Int32) (L : Nat) (N : Nat) (k2 : Nat → Int32 → Int32 → aSt → Option (Int32 × aSt)) (hk2 : ∀ (x0 : Nat) (x1 : Int32) (x3 : Int32) (d4 : Value) (σ : aSt) (q : Int32 × aSt), k2 x0 x1 x3 σ = some q → Gr σ → isTx x0 → Ev xs L 88 2 [.ref x0, .int x1, .ref 22, .int x3, d4] [] σ (wI q.1) q.2 ∧ Gr q.2) (x0 : Nat) (x1 : Int32) (x3 : Int32) (s0 : Int32) (d4 : Value) (σ : aSt) (q : Int32 × aSt) (h : J_X10_firstThatHolds_30 N k2 x0 x1 x3 s0 σ = some q) (hG : Gr σ) (hx0 : isTx x0) : Ev xs L 88 30 [.ref x0, .int x1, .ref 22, .int x3, d4] [.int s0] σ (wI q.1) q.2 ∧ Gr q.2 := by
  have h : (cO (¬ (x3 < 0 ∨ 20 ≤ x3.toNatClampNeg)) (if (aI σ (x0 + 1) x3.toNatClampNeg) ≠ x1 then J_X10_firstThatHolds_69 N k2 x0 x1 x3 σ else if s0 ≠ 0 then J_X10_firstThatHolds_67 N x3 σ else cO (¬ (x3 < 0 ∨ 20 ≤ x3.toNatClampNeg)) (cO (¬ (x3 < 0 ∨ 20 ≤ x3.toNatClampNeg)) (oB (F_X10_compute N x0 (aI σ (x0 + 3) x3.toNatClampNeg) (aI σ (x0 + 4) x3.toNatClampNeg) σ) fun y6 σ7 => if y6 = 0 then J_X10_firstThatHolds_69 N k2 x0 x1 x3 σ7 else J_X10_firstThatHolds_67 N x3 σ7)))) = some q := h
  refine ev_a (fun he => ev_istore (ls' := [.ref x0, .int x1, .ref 22, .int x3, .int s0]) rfl (Nat.le_of_ble_eq_true rfl) rfl he) ?_
  refine ev_a (fun he => ev_aload rfl rfl he) ?_
  refine ev_a (fun he => ev_getR rfl (gr_ob (n := 8) hG (sh_Tx0 hx0)) (gr_p hG (gf_Tx1 hx0)) he) ?_
  refine ev_a (fun he => ev_iload rfl rfl he) ?_
  obtain ⟨hc1, h⟩ := cO_inv h
  refine ev_a (fun he => ev_aldI (k := x3.toNatClampNeg) rfl (gr_ar hG (sh_Tx1 hx0)) hc1 rfl he) ?_
  refine ev_a (fun he => ev_iload rfl rfl he) ?_
  refine ev_b (c := (aI σ (x0 + 1) x3.toNatClampNeg) ≠ x1) (fun ht hf => ev_cne rfl ht hf) (fun hc2 => ?_) (fun hc2 => ?_)
  · rw [if_pos hc2] at h
    exact TJ_X10_firstThatHolds_69 xs L N k2 hk2 x0 x1 x3 (.int s0) σ q h hG hx0
  · rw [if_neg hc2] at h
    refine ev_a (fun he => ev_iload rfl rfl he) ?_
    refine ev_b (c := s0 ≠ 0) (fun ht hf => ev_ifne rfl ht hf) (fun hc3 => ?_) (fun hc3 => ?_)
    · rw [if_pos hc3] at h
      exact TJ_X10_firstThatHolds_67 xs L N x3 (.ref x0) (.int x1) (.ref 22) (.int s0) σ q h hG
    · rw [if_neg hc3] at h
      refine ev_a (fun he => ev_aload rfl rfl he) ?_
      refine ev_a (fun he => ev_aload rfl rfl he) ?_
      refine ev_a (fun he => ev_getR rfl (gr_ob (n := 8) hG (sh_Tx0 hx0)) (gr_p hG (gf_Tx3 hx0)) he) ?_
      refine ev_a (fun he => ev_iload rfl rfl he) ?_
      obtain ⟨hc4, h⟩ := cO_inv h
      refine ev_a (fun he => ev_aldI (k := x3.toNatClampNeg) rfl (gr_ar hG (sh_Tx3 hx0)) hc4 rfl he) ?_
      refine ev_a (fun he => ev_aload rfl rfl he) ?_
      refine ev_a (fun he => ev_getR rfl (gr_ob (n := 8) hG (sh_Tx0 hx0)) (gr_p hG (gf_Tx4 hx0)) he) ?_
      refine ev_a (fun he => ev_iload rfl rfl he) ?_
      obtain ⟨hc5, h⟩ := cO_inv h
      refine ev_a (fun he => ev_aldI (k := x3.toNatClampNeg) rfl (gr_ar hG (sh_Tx4 hx0)) hc5 rfl he) ?_
      refine ev_a (fun he => ev_aload rfl rfl he) ?_
      obtain ⟨y6, σ7, h8, h⟩ := oB_inv h
      obtain ⟨c9, hG10⟩ := T_X10_compute xs L N x0 (aI σ (x0 + 3) x3.toNatClampNeg) (aI σ (x0 + 4) x3.toNatClampNeg) σ (y6, σ7) h8 hG hx0
      refine ev_a (fun he => ev_callV (as := [.int (aI σ (x0 + 3) x3.toNatClampNeg), .int (aI σ (x0 + 4) x3.toNatClampNeg), .ref 22]) rfl (gr_ob (n := 8) hG (sh_Tx0 hx0)) rfl rfl rfl (Nat.le_of_ble_eq_true rfl) (Nat.le_of_ble_eq_true rfl) c9 he) ?_
      refine ev_b (c := y6 = 0) (fun ht hf => ev_ifeq rfl ht hf) (fun hc11 => ?_) (fun hc11 => ?_)
      · rw [if_pos hc11] at h
        exact TJ_X10_firstThatHolds_69 xs L N k2 hk2 x0 x1 x3 (.int s0) σ7 q h hG10 hx0
      · rw [if_neg hc11] at h
        exact TJ_X10_firstThatHolds_67 xs L N x3 (.ref x0) (.int x1) (.ref 22) (.int s0) σ7 q h hG10
def H_X10_firstThatHolds_2 (N : Nat) : Nat → Nat → Int32 → Int32 → aSt → Option (Int32 × aSt)
  | 0, _, _, _, _ => none
  | n + 1, x0, x1, x3, σ => if (aI σ x0 0) ≤ x3 then some ((-1), σ) else cO (¬ (x3 < 0 ∨ 20 ≤ x3.toNatClampNeg)) (cO (¬ (x3 < 0 ∨ 20 ≤ x3.toNatClampNeg)) (if (aI σ (x0 + 3) x3.toNatClampNeg) ≠ (aI σ (x0 + 4) x3.toNatClampNeg) then J_X10_firstThatHolds_30 N (H_X10_firstThatHolds_2 N n) x0 x1 x3 0 σ else J_X10_firstThatHolds_30 N (H_X10_firstThatHolds_2 N n) x0 x1 x3 1 σ))
set_option maxRecDepth 20000 in
set_option maxHeartbeats 4000000 in
theorem TH_X10_firstThatHolds_2 (xs : Nat → Int32) (L : Nat) (N : Nat) : ∀ (n : Nat) (x0 : Nat) (x1 : Int32) (x3 : Int32) (d4 : Value) (σ : aSt) (q : Int32 × aSt), H_X10_firstThatHolds_2 N n x0 x1 x3 σ = some q → Gr σ → isTx x0 → Ev xs L 88 2 [.ref x0, .int x1, .ref 22, .int x3, d4] [] σ (wI q.1) q.2 ∧ Gr q.2 := by
  intro n
  induction n with
  | zero =>
    intro x0 x1 x3 d4 σ q h hG hx0
    exact absurd (show (none : Option (Int32 × aSt)) = some q from h) (by simp)
  | succ n ih =>
    intro x0 x1 x3 d4 σ q h hG hx0
    have hk2 : ∀ (x0 : Nat) (x1 : Int32) (x3 : Int32) (d4 : Value) (σ : aSt) (q : Int32 × aSt), H_X10_firstThatHolds_2 N n x0 x1 x3 σ = some q → Gr σ → isTx x0 → Ev xs L 88 2 [.ref x0, .int x1, .ref 22, .int x3, d4] [] σ (wI q.1) q.2 ∧ Gr q.2 := ih
    have h : (if (aI σ x0 0) ≤ x3 then some ((-1), σ) else cO (¬ (x3 < 0 ∨ 20 ≤ x3.toNatClampNeg)) (cO (¬ (x3 < 0 ∨ 20 ≤ x3.toNatClampNeg)) (if (aI σ (x0 + 3) x3.toNatClampNeg) ≠ (aI σ (x0 + 4) x3.toNatClampNeg) then J_X10_firstThatHolds_30 N (H_X10_firstThatHolds_2 N n) x0 x1 x3 0 σ else J_X10_firstThatHolds_30 N (H_X10_firstThatHolds_2 N n) x0 x1 x3 1 σ))) = some q := h
    refine ev_a (fun he => ev_iload rfl rfl he) ?_
    refine ev_a (fun he => ev_aload rfl rfl he) ?_
    refine ev_a (fun he => ev_getI rfl (gr_ob (n := 8) hG (sh_Tx0 hx0)) he) ?_
    refine ev_b (c := (aI σ x0 0) ≤ x3) (fun ht hf => ev_cge rfl ht hf) (fun hc12 => ?_) (fun hc12 => ?_)
    · rw [if_pos hc12] at h
      refine ev_a (fun he => ev_push rfl he) ?_
      cases h
      exact ⟨ev_retI rfl, hG⟩
    · rw [if_neg hc12] at h
      refine ev_a (fun he => ev_aload rfl rfl he) ?_
      refine ev_a (fun he => ev_getR rfl (gr_ob (n := 8) hG (sh_Tx0 hx0)) (gr_p hG (gf_Tx3 hx0)) he) ?_
      refine ev_a (fun he => ev_iload rfl rfl he) ?_
      obtain ⟨hc13, h⟩ := cO_inv h
      refine ev_a (fun he => ev_aldI (k := x3.toNatClampNeg) rfl (gr_ar hG (sh_Tx3 hx0)) hc13 rfl he) ?_
      refine ev_a (fun he => ev_aload rfl rfl he) ?_
      refine ev_a (fun he => ev_getR rfl (gr_ob (n := 8) hG (sh_Tx0 hx0)) (gr_p hG (gf_Tx4 hx0)) he) ?_
      refine ev_a (fun he => ev_iload rfl rfl he) ?_
      obtain ⟨hc14, h⟩ := cO_inv h
      refine ev_a (fun he => ev_aldI (k := x3.toNatClampNeg) rfl (gr_ar hG (sh_Tx4 hx0)) hc14 rfl he) ?_
      refine ev_b (c := (aI σ (x0 + 3) x3.toNatClampNeg) ≠ (aI σ (x0 + 4) x3.toNatClampNeg)) (fun ht hf => ev_cne rfl ht hf) (fun hc15 => ?_) (fun hc15 => ?_)
      · rw [if_pos hc15] at h
        refine ev_a (fun he => ev_push rfl he) ?_
        exact TJ_X10_firstThatHolds_30 xs L N (H_X10_firstThatHolds_2 N n) hk2 x0 x1 x3 0 (d4) σ q h hG hx0
      · rw [if_neg hc15] at h
        refine ev_a (fun he => ev_push rfl he) ?_
        refine ev_a (fun he => ev_goto rfl he) ?_
        exact TJ_X10_firstThatHolds_30 xs L N (H_X10_firstThatHolds_2 N n) hk2 x0 x1 x3 1 (d4) σ q h hG hx0
def F_X10_firstThatHolds (N : Nat) (x0 : Nat) (x1 : Int32) (σ : aSt) : Option (Int32 × aSt) := H_X10_firstThatHolds_2 N N x0 x1 0 σ
set_option maxRecDepth 20000 in
set_option maxHeartbeats 4000000 in
theorem T_X10_firstThatHolds (xs : Nat → Int32) (L : Nat) (N : Nat) (x0 : Nat) (x1 : Int32) (σ : aSt) (q : Int32 × aSt) (h : F_X10_firstThatHolds N x0 x1 σ = some q) (hG : Gr σ) (hx0 : isTx x0) : Cal xs L 88 [.ref x0, .int x1, .ref 22] σ (wI q.1) q.2 ∧ Gr q.2 := by
  have h : (H_X10_firstThatHolds_2 N N x0 x1 0 σ) = some q := h
  show Ev xs L 88 0 [.ref x0, .int x1, .ref 22, aU, aU] [] σ (wI q.1) q.2 ∧ Gr q.2
  refine ev_a (fun he => ev_push rfl he) ?_
  refine ev_a (fun he => ev_istore (ls' := [.ref x0, .int x1, .ref 22, .int 0, aU]) rfl (Nat.le_of_ble_eq_true rfl) rfl he) ?_
  exact TH_X10_firstThatHolds_2 xs L N N x0 x1 0 (aU) σ q h hG hx0
def J_X10_valueOrElse_37 (N : Nat) (s0 : Int32) (σ : aSt) : Option (Int32 × aSt) := some (s0, σ)
set_option maxRecDepth 20000 in
set_option maxHeartbeats 4000000 in
theorem TJ_X10_valueOrElse_37 (xs : Nat → Int32) (L : Nat) (N : Nat) (s0 : Int32) (d0 : Value) (d1 : Value) (d2 : Value) (d3 : Value) (d4 : Value) (σ : aSt) (q : Int32 × aSt) (h : J_X10_valueOrElse_37 N s0 σ = some q) (hG : Gr σ) : Ev xs L 89 37 [d0, d1, d2, d3, d4] [.int s0] σ (wI q.1) q.2 ∧ Gr q.2 := by
  have h : (some (s0, σ)) = some q := h
  cases h
  exact ⟨ev_retI rfl, hG⟩
def F_X10_valueOrElse (N : Nat) (x0 : Nat) (x1 : Int32) (x3 : Int32) (σ : aSt) : Option (Int32 × aSt) := oB (F_X10_firstThatHolds N x0 x1 σ) fun y1 σ2 => if y1 ≠ ((-1)) then cO (¬ (y1 < 0 ∨ 20 ≤ y1.toNatClampNeg)) (cO (¬ (y1 < 0 ∨ 20 ≤ y1.toNatClampNeg)) (oB (F_X10_compute N x0 (aI σ2 (x0 + 2) y1.toNatClampNeg) (aI σ2 (x0 + 3) y1.toNatClampNeg) σ2) fun y9 σ10 => J_X10_valueOrElse_37 N y9 σ10)) else J_X10_valueOrElse_37 N x3 σ2
set_option maxRecDepth 20000 in
set_option maxHeartbeats 4000000 in
theorem T_X10_valueOrElse (xs : Nat → Int32) (L : Nat) (N : Nat) (x0 : Nat) (x1 : Int32) (x3 : Int32) (σ : aSt) (q : Int32 × aSt) (h : F_X10_valueOrElse N x0 x1 x3 σ = some q) (hG : Gr σ) (hx0 : isTx x0) : Cal xs L 89 [.ref x0, .int x1, .ref 22, .int x3] σ (wI q.1) q.2 ∧ Gr q.2 := by
  have h : (oB (F_X10_firstThatHolds N x0 x1 σ) fun y1 σ2 => if y1 ≠ ((-1)) then cO (¬ (y1 < 0 ∨ 20 ≤ y1.toNatClampNeg)) (cO (¬ (y1 < 0 ∨ 20 ≤ y1.toNatClampNeg)) (oB (F_X10_compute N x0 (aI σ2 (x0 + 2) y1.toNatClampNeg) (aI σ2 (x0 + 3) y1.toNatClampNeg) σ2) fun y9 σ10 => J_X10_valueOrElse_37 N y9 σ10)) else J_X10_valueOrElse_37 N x3 σ2) = some q := h
  show Ev xs L 89 0 [.ref x0, .int x1, .ref 22, .int x3, aU] [] σ (wI q.1) q.2 ∧ Gr q.2
  refine ev_a (fun he => ev_aload rfl rfl he) ?_
  refine ev_a (fun he => ev_iload rfl rfl he) ?_
  refine ev_a (fun he => ev_aload rfl rfl he) ?_
  obtain ⟨y1, σ2, h3, h⟩ := oB_inv h
  obtain ⟨c4, hG5⟩ := T_X10_firstThatHolds xs L N x0 x1 σ (y1, σ2) h3 hG hx0
  refine ev_a (fun he => ev_callV (as := [.int x1, .ref 22]) rfl (gr_ob (n := 8) hG (sh_Tx0 hx0)) rfl rfl rfl (Nat.le_of_ble_eq_true rfl) (Nat.le_of_ble_eq_true rfl) c4 he) ?_
  refine ev_a (fun he => ev_istore (ls' := [.ref x0, .int x1, .ref 22, .int x3, .int y1]) rfl (Nat.le_of_ble_eq_true rfl) rfl he) ?_
  refine ev_a (fun he => ev_iload rfl rfl he) ?_
  refine ev_a (fun he => ev_push rfl he) ?_
  refine ev_b (c := y1 ≠ ((-1))) (fun ht hf => ev_cne rfl ht hf) (fun hc6 => ?_) (fun hc6 => ?_)
  · rw [if_pos hc6] at h
    refine ev_a (fun he => ev_aload rfl rfl he) ?_
    refine ev_a (fun he => ev_aload rfl rfl he) ?_
    refine ev_a (fun he => ev_getR rfl (gr_ob (n := 8) hG5 (sh_Tx0 hx0)) (gr_p hG5 (gf_Tx2 hx0)) he) ?_
    refine ev_a (fun he => ev_iload rfl rfl he) ?_
    obtain ⟨hc7, h⟩ := cO_inv h
    refine ev_a (fun he => ev_aldI (k := y1.toNatClampNeg) rfl (gr_ar hG5 (sh_Tx2 hx0)) hc7 rfl he) ?_
    refine ev_a (fun he => ev_aload rfl rfl he) ?_
    refine ev_a (fun he => ev_getR rfl (gr_ob (n := 8) hG5 (sh_Tx0 hx0)) (gr_p hG5 (gf_Tx3 hx0)) he) ?_
    refine ev_a (fun he => ev_iload rfl rfl he) ?_
    obtain ⟨hc8, h⟩ := cO_inv h
    refine ev_a (fun he => ev_aldI (k := y1.toNatClampNeg) rfl (gr_ar hG5 (sh_Tx3 hx0)) hc8 rfl he) ?_
    refine ev_a (fun he => ev_aload rfl rfl he) ?_
    obtain ⟨y9, σ10, h11, h⟩ := oB_inv h
    obtain ⟨c12, hG13⟩ := T_X10_compute xs L N x0 (aI σ2 (x0 + 2) y1.toNatClampNeg) (aI σ2 (x0 + 3) y1.toNatClampNeg) σ2 (y9, σ10) h11 hG5 hx0
    refine ev_a (fun he => ev_callV (as := [.int (aI σ2 (x0 + 2) y1.toNatClampNeg), .int (aI σ2 (x0 + 3) y1.toNatClampNeg), .ref 22]) rfl (gr_ob (n := 8) hG5 (sh_Tx0 hx0)) rfl rfl rfl (Nat.le_of_ble_eq_true rfl) (Nat.le_of_ble_eq_true rfl) c12 he) ?_
    exact TJ_X10_valueOrElse_37 xs L N y9 (.ref x0) (.int x1) (.ref 22) (.int x3) (.int y1) σ10 q h hG13
  · rw [if_neg hc6] at h
    refine ev_a (fun he => ev_iload rfl rfl he) ?_
    refine ev_a (fun he => ev_goto rfl he) ?_
    exact TJ_X10_valueOrElse_37 xs L N x3 (.ref x0) (.int x1) (.ref 22) (.int x3) (.int y1) σ2 q h hG5
def J_J9_min_7cf53_10 (N : Nat) (s0 : Int32) (σ : aSt) : Option (Int32 × aSt) := some (s0, σ)
set_option maxRecDepth 20000 in
set_option maxHeartbeats 4000000 in
theorem TJ_J9_min_7cf53_10 (xs : Nat → Int32) (L : Nat) (N : Nat) (s0 : Int32) (d0 : Value) (d1 : Value) (σ : aSt) (q : Int32 × aSt) (h : J_J9_min_7cf53_10 N s0 σ = some q) (hG : Gr σ) : Ev xs L 176 10 [d0, d1] [.int s0] σ (wI q.1) q.2 ∧ Gr q.2 := by
  have h : (some (s0, σ)) = some q := h
  cases h
  exact ⟨ev_retI rfl, hG⟩
def F_J9_min_7cf53 (N : Nat) (x0 : Int32) (x1 : Int32) (σ : aSt) : Option (Int32 × aSt) := if x1 < x0 then J_J9_min_7cf53_10 N x1 σ else J_J9_min_7cf53_10 N x0 σ
set_option maxRecDepth 20000 in
set_option maxHeartbeats 4000000 in
theorem T_J9_min_7cf53 (xs : Nat → Int32) (L : Nat) (N : Nat) (x0 : Int32) (x1 : Int32) (σ : aSt) (q : Int32 × aSt) (h : F_J9_min_7cf53 N x0 x1 σ = some q) (hG : Gr σ) : Cal xs L 176 [.int x0, .int x1] σ (wI q.1) q.2 ∧ Gr q.2 := by
  have h : (if x1 < x0 then J_J9_min_7cf53_10 N x1 σ else J_J9_min_7cf53_10 N x0 σ) = some q := h
  show Ev xs L 176 0 [.int x0, .int x1] [] σ (wI q.1) q.2 ∧ Gr q.2
  refine ev_a (fun he => ev_iload rfl rfl he) ?_
  refine ev_a (fun he => ev_iload rfl rfl he) ?_
  refine ev_b (c := x1 < x0) (fun ht hf => ev_cgt rfl ht hf) (fun hc1 => ?_) (fun hc1 => ?_)
  · rw [if_pos hc1] at h
    refine ev_a (fun he => ev_iload rfl rfl he) ?_
    exact TJ_J9_min_7cf53_10 xs L N x1 (.int x0) (.int x1) σ q h hG
  · rw [if_neg hc1] at h
    refine ev_a (fun he => ev_iload rfl rfl he) ?_
    refine ev_a (fun he => ev_goto rfl he) ?_
    exact TJ_J9_min_7cf53_10 xs L N x0 (.int x0) (.int x1) σ q h hG
def F_X2_heldTo (N : Nat) (x0 : Int32) (x1 : Int32) (σ : aSt) : Option (Int32 × aSt) := oB (F_J9_min_7cf53 N x0 x1 σ) fun y1 σ2 => oB (F_J9_max_7cf53 N 1 y1 σ2) fun y6 σ7 => some (y6, σ7)
set_option maxRecDepth 20000 in
set_option maxHeartbeats 4000000 in
theorem T_X2_heldTo (xs : Nat → Int32) (L : Nat) (N : Nat) (x0 : Int32) (x1 : Int32) (σ : aSt) (q : Int32 × aSt) (h : F_X2_heldTo N x0 x1 σ = some q) (hG : Gr σ) : Cal xs L 12 [.int x0, .int x1] σ (wI q.1) q.2 ∧ Gr q.2 := by
  have h : (oB (F_J9_min_7cf53 N x0 x1 σ) fun y1 σ2 => oB (F_J9_max_7cf53 N 1 y1 σ2) fun y6 σ7 => some (y6, σ7)) = some q := h
  show Ev xs L 12 0 [.int x0, .int x1] [] σ (wI q.1) q.2 ∧ Gr q.2
  refine ev_a (fun he => ev_push rfl he) ?_
  refine ev_a (fun he => ev_iload rfl rfl he) ?_
  refine ev_a (fun he => ev_iload rfl rfl he) ?_
  obtain ⟨y1, σ2, h3, h⟩ := oB_inv h
  obtain ⟨c4, hG5⟩ := T_J9_min_7cf53 xs L N x0 x1 σ (y1, σ2) h3 hG
  refine ev_a (fun he => ev_callS (as := [.int x0, .int x1]) rfl rfl rfl rfl (Nat.le_of_ble_eq_true rfl) (Nat.le_of_ble_eq_true rfl) c4 he) ?_
  obtain ⟨y6, σ7, h8, h⟩ := oB_inv h
  obtain ⟨c9, hG10⟩ := T_J9_max_7cf53 xs L N 1 y1 σ2 (y6, σ7) h8 hG5
  refine ev_a (fun he => ev_callS (as := [.int 1, .int y1]) rfl rfl rfl rfl (Nat.le_of_ble_eq_true rfl) (Nat.le_of_ble_eq_true rfl) c9 he) ?_
  cases h
  exact ⟨ev_retI rfl, hG10⟩
def F_X2_startOf (N : Nat) (x1 : Int32) (σ : aSt) : Option (Int32 × aSt) := oB (F_X2_setLotVariables N x1 σ) fun y1 σ2 => oB (F_X10_valueOrElse N (aTxt σ2 11 5) 1 100 σ2) fun y6 σ7 => oB (F_X2_heldTo N y6 999 σ7) fun y11 σ12 => some (y11, σ12)
set_option maxRecDepth 20000 in
set_option maxHeartbeats 4000000 in
theorem T_X2_startOf (xs : Nat → Int32) (L : Nat) (N : Nat) (x1 : Int32) (σ : aSt) (q : Int32 × aSt) (h : F_X2_startOf N x1 σ = some q) (hG : Gr σ) : Cal xs L 10 [.ref 11, .int x1] σ (wI q.1) q.2 ∧ Gr q.2 := by
  have h : (oB (F_X2_setLotVariables N x1 σ) fun y1 σ2 => oB (F_X10_valueOrElse N (aTxt σ2 11 5) 1 100 σ2) fun y6 σ7 => oB (F_X2_heldTo N y6 999 σ7) fun y11 σ12 => some (y11, σ12)) = some q := h
  show Ev xs L 10 0 [.ref 11, .int x1] [] σ (wI q.1) q.2 ∧ Gr q.2
  refine ev_a (fun he => ev_aload rfl rfl he) ?_
  refine ev_a (fun he => ev_iload rfl rfl he) ?_
  obtain ⟨y1, σ2, h3, h⟩ := oB_inv h
  obtain ⟨c4, hG5⟩ := T_X2_setLotVariables xs L N x1 σ (y1, σ2) h3 hG
  refine ev_a (fun he => ev_callV (as := [.int x1]) rfl (gr_ob (n := 7) hG rfl) rfl rfl rfl (Nat.le_of_ble_eq_true rfl) (Nat.le_of_ble_eq_true rfl) c4 he) ?_
  refine ev_a (fun he => ev_aload rfl rfl he) ?_
  refine ev_a (fun he => ev_getR rfl (gr_ob (n := 7) hG5 rfl) (gr_tx (a := 11) (k := 5) hG5 (by decide)).1 he) ?_
  refine ev_a (fun he => ev_push rfl he) ?_
  refine ev_a (fun he => ev_aload rfl rfl he) ?_
  refine ev_a (fun he => ev_getR rfl (gr_ob (n := 7) hG5 rfl) (gr_p (a := 11) (k := 6) (b := 22) hG5 rfl) he) ?_
  refine ev_a (fun he => ev_push rfl he) ?_
  obtain ⟨y6, σ7, h8, h⟩ := oB_inv h
  obtain ⟨c9, hG10⟩ := T_X10_valueOrElse xs L N (aTxt σ2 11 5) 1 100 σ2 (y6, σ7) h8 hG5 (gr_tx (a := 11) (k := 5) hG5 (by decide)).2
  refine ev_a (fun he => ev_callV (as := [.int 1, .ref 22, .int 100]) rfl (gr_ob (n := 8) hG5 (sh_Tx0 (gr_tx (a := 11) (k := 5) hG5 (by decide)).2)) rfl rfl rfl (Nat.le_of_ble_eq_true rfl) (Nat.le_of_ble_eq_true rfl) c9 he) ?_
  refine ev_a (fun he => ev_push rfl he) ?_
  obtain ⟨y11, σ12, h13, h⟩ := oB_inv h
  obtain ⟨c14, hG15⟩ := T_X2_heldTo xs L N y6 999 σ7 (y11, σ12) h13 hG10
  refine ev_a (fun he => ev_callS (as := [.int y6, .int 999]) rfl rfl rfl rfl (Nat.le_of_ble_eq_true rfl) (Nat.le_of_ble_eq_true rfl) c14 he) ?_
  cases h
  exact ⟨ev_retI rfl, hG15⟩
def F_X2_leastOf (N : Nat) (x1 : Int32) (x2 : Int32) (σ : aSt) : Option (Int32 × aSt) := oB (F_X2_setLotVariables N x1 σ) fun y1 σ2 => oB (F_X10_valueOrElse N (aTxt σ2 11 5) 2 1 σ2) fun y6 σ7 => oB (F_X2_heldTo N y6 x2 σ7) fun y11 σ12 => some (y11, σ12)
set_option maxRecDepth 20000 in
set_option maxHeartbeats 4000000 in
theorem T_X2_leastOf (xs : Nat → Int32) (L : Nat) (N : Nat) (x1 : Int32) (x2 : Int32) (σ : aSt) (q : Int32 × aSt) (h : F_X2_leastOf N x1 x2 σ = some q) (hG : Gr σ) : Cal xs L 11 [.ref 11, .int x1, .int x2] σ (wI q.1) q.2 ∧ Gr q.2 := by
  have h : (oB (F_X2_setLotVariables N x1 σ) fun y1 σ2 => oB (F_X10_valueOrElse N (aTxt σ2 11 5) 2 1 σ2) fun y6 σ7 => oB (F_X2_heldTo N y6 x2 σ7) fun y11 σ12 => some (y11, σ12)) = some q := h
  show Ev xs L 11 0 [.ref 11, .int x1, .int x2] [] σ (wI q.1) q.2 ∧ Gr q.2
  refine ev_a (fun he => ev_aload rfl rfl he) ?_
  refine ev_a (fun he => ev_iload rfl rfl he) ?_
  obtain ⟨y1, σ2, h3, h⟩ := oB_inv h
  obtain ⟨c4, hG5⟩ := T_X2_setLotVariables xs L N x1 σ (y1, σ2) h3 hG
  refine ev_a (fun he => ev_callV (as := [.int x1]) rfl (gr_ob (n := 7) hG rfl) rfl rfl rfl (Nat.le_of_ble_eq_true rfl) (Nat.le_of_ble_eq_true rfl) c4 he) ?_
  refine ev_a (fun he => ev_aload rfl rfl he) ?_
  refine ev_a (fun he => ev_getR rfl (gr_ob (n := 7) hG5 rfl) (gr_tx (a := 11) (k := 5) hG5 (by decide)).1 he) ?_
  refine ev_a (fun he => ev_push rfl he) ?_
  refine ev_a (fun he => ev_aload rfl rfl he) ?_
  refine ev_a (fun he => ev_getR rfl (gr_ob (n := 7) hG5 rfl) (gr_p (a := 11) (k := 6) (b := 22) hG5 rfl) he) ?_
  refine ev_a (fun he => ev_push rfl he) ?_
  obtain ⟨y6, σ7, h8, h⟩ := oB_inv h
  obtain ⟨c9, hG10⟩ := T_X10_valueOrElse xs L N (aTxt σ2 11 5) 2 1 σ2 (y6, σ7) h8 hG5 (gr_tx (a := 11) (k := 5) hG5 (by decide)).2
  refine ev_a (fun he => ev_callV (as := [.int 2, .ref 22, .int 1]) rfl (gr_ob (n := 8) hG5 (sh_Tx0 (gr_tx (a := 11) (k := 5) hG5 (by decide)).2)) rfl rfl rfl (Nat.le_of_ble_eq_true rfl) (Nat.le_of_ble_eq_true rfl) c9 he) ?_
  refine ev_a (fun he => ev_iload rfl rfl he) ?_
  obtain ⟨y11, σ12, h13, h⟩ := oB_inv h
  obtain ⟨c14, hG15⟩ := T_X2_heldTo xs L N y6 x2 σ7 (y11, σ12) h13 hG10
  refine ev_a (fun he => ev_callS (as := [.int y6, .int x2]) rfl rfl rfl rfl (Nat.le_of_ble_eq_true rfl) (Nat.le_of_ble_eq_true rfl) c14 he) ?_
  cases h
  exact ⟨ev_retI rfl, hG15⟩
def F_X2_stillWanted (N : Nat) (x1 : Int32) (x2 : Int32) (x3 : Nat) (σ : aSt) : Option (Int32 × aSt) := cO (¬ (x1 < 0 ∨ 6 ≤ x1.toNatClampNeg)) (cO (¬ (x2 < 0 ∨ 6 ≤ x2.toNatClampNeg)) (cO (¬ (x2 < 0 ∨ 6 ≤ x2.toNatClampNeg)) (oB (F_J9_max_7cf53 N 0 ((aI σ (47 + 9 * x1.toNatClampNeg + 1) x2.toNatClampNeg) - (aI σ (x3 + 1) x2.toNatClampNeg)) σ) fun y4 σ5 => some (y4, σ5))))
set_option maxRecDepth 20000 in
set_option maxHeartbeats 4000000 in
theorem T_X2_stillWanted (xs : Nat → Int32) (L : Nat) (N : Nat) (x1 : Int32) (x2 : Int32) (x3 : Nat) (σ : aSt) (q : Int32 × aSt) (h : F_X2_stillWanted N x1 x2 x3 σ = some q) (hG : Gr σ) (hx3 : isPu x3) : Cal xs L 15 [.ref 11, .int x1, .int x2, .ref x3] σ (wI q.1) q.2 ∧ Gr q.2 := by
  have h : (cO (¬ (x1 < 0 ∨ 6 ≤ x1.toNatClampNeg)) (cO (¬ (x2 < 0 ∨ 6 ≤ x2.toNatClampNeg)) (cO (¬ (x2 < 0 ∨ 6 ≤ x2.toNatClampNeg)) (oB (F_J9_max_7cf53 N 0 ((aI σ (47 + 9 * x1.toNatClampNeg + 1) x2.toNatClampNeg) - (aI σ (x3 + 1) x2.toNatClampNeg)) σ) fun y4 σ5 => some (y4, σ5))))) = some q := h
  show Ev xs L 15 0 [.ref 11, .int x1, .int x2, .ref x3] [] σ (wI q.1) q.2 ∧ Gr q.2
  refine ev_a (fun he => ev_push rfl he) ?_
  refine ev_a (fun he => ev_aload rfl rfl he) ?_
  refine ev_a (fun he => ev_getR rfl (gr_ob (n := 7) hG rfl) (gr_p (a := 11) (k := 2) (b := 13) hG rfl) he) ?_
  refine ev_a (fun he => ev_iload rfl rfl he) ?_
  obtain ⟨hc1, h⟩ := cO_inv h
  refine ev_a (fun he => ev_aldR rfl (gr_ar hG rfl) (by decide) hc1 (gr_p hG (el_Bu hc1).1) he) ?_
  refine ev_a (fun he => ev_getR rfl (gr_ob (n := 4) hG (sh_Bu0 (el_Bu hc1).2)) (gr_p hG (gf_Bu2 (el_Bu hc1).2)) he) ?_
  refine ev_a (fun he => ev_iload rfl rfl he) ?_
  obtain ⟨hc2, h⟩ := cO_inv h
  refine ev_a (fun he => ev_aldI (k := x2.toNatClampNeg) rfl (gr_ar hG (sh_Bu1 (el_Bu hc1).2)) hc2 rfl he) ?_
  refine ev_a (fun he => ev_aload rfl rfl he) ?_
  refine ev_a (fun he => ev_getR rfl (gr_ob (n := 5) hG (sh_Pu0 hx3)) (gr_p hG (gf_Pu3 hx3)) he) ?_
  refine ev_a (fun he => ev_iload rfl rfl he) ?_
  obtain ⟨hc3, h⟩ := cO_inv h
  refine ev_a (fun he => ev_aldI (k := x2.toNatClampNeg) rfl (gr_ar hG (sh_Pu1 hx3)) hc3 rfl he) ?_
  refine ev_a (fun he => ev_bin (z := (aI σ (47 + 9 * x1.toNatClampNeg + 1) x2.toNatClampNeg) - (aI σ (x3 + 1) x2.toNatClampNeg)) rfl rfl he) ?_
  obtain ⟨y4, σ5, h6, h⟩ := oB_inv h
  obtain ⟨c7, hG8⟩ := T_J9_max_7cf53 xs L N 0 ((aI σ (47 + 9 * x1.toNatClampNeg + 1) x2.toNatClampNeg) - (aI σ (x3 + 1) x2.toNatClampNeg)) σ (y4, σ5) h6 hG
  refine ev_a (fun he => ev_callS (as := [.int 0, .int ((aI σ (47 + 9 * x1.toNatClampNeg + 1) x2.toNatClampNeg) - (aI σ (x3 + 1) x2.toNatClampNeg))]) rfl rfl rfl rfl (Nat.le_of_ble_eq_true rfl) (Nat.le_of_ble_eq_true rfl) c7 he) ?_
  cases h
  exact ⟨ev_retI rfl, hG8⟩
def F_X2_setBuyerVariables (N : Nat) (x1 : Int32) (x2 : Int32) (x3 : Nat) (σ : aSt) : Option (Unit × aSt) := oB (F_X2_setLotVariables N x2 σ) fun y1 σ2 => cO (¬ (x2 < 0 ∨ 24 ≤ x2.toNatClampNeg)) (cO (¬ ((aI σ2 (23 + x2.toNatClampNeg) 1) < 0 ∨ 6 ≤ (aI σ2 (23 + x2.toNatClampNeg) 1).toNatClampNeg)) (lt (aWI σ2 22 6 (aI σ2 (x3 + 1) (aI σ2 (23 + x2.toNatClampNeg) 1).toNatClampNeg)) fun σ9 => oB (F_X2_stillWanted N x1 (aI σ2 (23 + x2.toNatClampNeg) 1) x3 σ9) fun y12 σ13 => lt (aWI σ13 22 7 y12) fun σ18 => lt (aWI σ18 22 8 (aI σ18 x3 0)) fun σ22 => some ((), σ22)))
set_option maxRecDepth 20000 in
set_option maxHeartbeats 4000000 in
theorem T_X2_setBuyerVariables (xs : Nat → Int32) (L : Nat) (N : Nat) (x1 : Int32) (x2 : Int32) (x3 : Nat) (σ : aSt) (q : Unit × aSt) (h : F_X2_setBuyerVariables N x1 x2 x3 σ = some q) (hG : Gr σ) (hx3 : isPu x3) : Cal xs L 17 [.ref 11, .int x1, .int x2, .ref x3] σ (wV q.1) q.2 ∧ Gr q.2 := by
  have h : (oB (F_X2_setLotVariables N x2 σ) fun y1 σ2 => cO (¬ (x2 < 0 ∨ 24 ≤ x2.toNatClampNeg)) (cO (¬ ((aI σ2 (23 + x2.toNatClampNeg) 1) < 0 ∨ 6 ≤ (aI σ2 (23 + x2.toNatClampNeg) 1).toNatClampNeg)) (lt (aWI σ2 22 6 (aI σ2 (x3 + 1) (aI σ2 (23 + x2.toNatClampNeg) 1).toNatClampNeg)) fun σ9 => oB (F_X2_stillWanted N x1 (aI σ2 (23 + x2.toNatClampNeg) 1) x3 σ9) fun y12 σ13 => lt (aWI σ13 22 7 y12) fun σ18 => lt (aWI σ18 22 8 (aI σ18 x3 0)) fun σ22 => some ((), σ22)))) = some q := h
  show Ev xs L 17 0 [.ref 11, .int x1, .int x2, .ref x3, aU] [] σ (wV q.1) q.2 ∧ Gr q.2
  refine ev_a (fun he => ev_aload rfl rfl he) ?_
  refine ev_a (fun he => ev_iload rfl rfl he) ?_
  obtain ⟨y1, σ2, h3, h⟩ := oB_inv h
  obtain ⟨c4, hG5⟩ := T_X2_setLotVariables xs L N x2 σ (y1, σ2) h3 hG
  refine ev_a (fun he => ev_callV (as := [.int x2]) rfl (gr_ob (n := 7) hG rfl) rfl rfl rfl (Nat.le_of_ble_eq_true rfl) (Nat.le_of_ble_eq_true rfl) c4 he) ?_
  refine ev_a (fun he => ev_aload rfl rfl he) ?_
  refine ev_a (fun he => ev_getR rfl (gr_ob (n := 7) hG5 rfl) (gr_p (a := 11) (k := 0) (b := 12) hG5 rfl) he) ?_
  refine ev_a (fun he => ev_iload rfl rfl he) ?_
  obtain ⟨hc6, h⟩ := cO_inv h
  refine ev_a (fun he => ev_aldR rfl (gr_ar hG5 rfl) (by decide) hc6 (gr_p hG5 (el_Lo hc6).1) he) ?_
  refine ev_a (fun he => ev_getI rfl (gr_ob (n := 5) hG5 (sh_Lo0 (el_Lo hc6).2)) he) ?_
  refine ev_a (fun he => ev_istore (ls' := [.ref 11, .int x1, .int x2, .ref x3, .int (aI σ2 (23 + x2.toNatClampNeg) 1)]) rfl (Nat.le_of_ble_eq_true rfl) rfl he) ?_
  refine ev_a (fun he => ev_aload rfl rfl he) ?_
  refine ev_a (fun he => ev_getR rfl (gr_ob (n := 7) hG5 rfl) (gr_p (a := 11) (k := 6) (b := 22) hG5 rfl) he) ?_
  refine ev_a (fun he => ev_push rfl he) ?_
  refine ev_a (fun he => ev_aload rfl rfl he) ?_
  refine ev_a (fun he => ev_getR rfl (gr_ob (n := 5) hG5 (sh_Pu0 hx3)) (gr_p hG5 (gf_Pu3 hx3)) he) ?_
  refine ev_a (fun he => ev_iload rfl rfl he) ?_
  obtain ⟨hc7, h⟩ := cO_inv h
  refine ev_a (fun he => ev_aldI (k := (aI σ2 (23 + x2.toNatClampNeg) 1).toNatClampNeg) rfl (gr_ar hG5 (sh_Pu1 hx3)) hc7 rfl he) ?_
  obtain ⟨σ9, e10, h⟩ := lt_inv h
  have hG11 : Gr σ9 := gr_wi e10 hG5
  refine ev_a (fun he => ev_astI (k := 6) rfl (gr_ar hG5 rfl) (by decide) (by decide) rfl e10 he) ?_
  refine ev_a (fun he => ev_aload rfl rfl he) ?_
  refine ev_a (fun he => ev_getR rfl (gr_ob (n := 7) hG11 rfl) (gr_p (a := 11) (k := 6) (b := 22) hG11 rfl) he) ?_
  refine ev_a (fun he => ev_push rfl he) ?_
  refine ev_a (fun he => ev_aload rfl rfl he) ?_
  refine ev_a (fun he => ev_iload rfl rfl he) ?_
  refine ev_a (fun he => ev_iload rfl rfl he) ?_
  refine ev_a (fun he => ev_aload rfl rfl he) ?_
  obtain ⟨y12, σ13, h14, h⟩ := oB_inv h
  obtain ⟨c15, hG16⟩ := T_X2_stillWanted xs L N x1 (aI σ2 (23 + x2.toNatClampNeg) 1) x3 σ9 (y12, σ13) h14 hG11 hx3
  refine ev_a (fun he => ev_callV (as := [.int x1, .int (aI σ2 (23 + x2.toNatClampNeg) 1), .ref x3]) rfl (gr_ob (n := 7) hG11 rfl) rfl rfl rfl (Nat.le_of_ble_eq_true rfl) (Nat.le_of_ble_eq_true rfl) c15 he) ?_
  obtain ⟨σ18, e19, h⟩ := lt_inv h
  have hG20 : Gr σ18 := gr_wi e19 hG16
  refine ev_a (fun he => ev_astI (k := 7) rfl (gr_ar hG16 rfl) (by decide) (by decide) rfl e19 he) ?_
  refine ev_a (fun he => ev_aload rfl rfl he) ?_
  refine ev_a (fun he => ev_getR rfl (gr_ob (n := 7) hG20 rfl) (gr_p (a := 11) (k := 6) (b := 22) hG20 rfl) he) ?_
  refine ev_a (fun he => ev_push rfl he) ?_
  refine ev_a (fun he => ev_aload rfl rfl he) ?_
  refine ev_a (fun he => ev_getI rfl (gr_ob (n := 5) hG20 (sh_Pu0 hx3)) he) ?_
  obtain ⟨σ22, e23, h⟩ := lt_inv h
  have hG24 : Gr σ22 := gr_wi e23 hG20
  refine ev_a (fun he => ev_astI (k := 8) rfl (gr_ar hG20 rfl) (by decide) (by decide) rfl e23 he) ?_
  cases h
  exact ⟨ev_retV rfl, hG24⟩
