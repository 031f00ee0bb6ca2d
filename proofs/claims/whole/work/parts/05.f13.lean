def J_X9_refreshLimits_105 (N : Nat) (k2 : Nat → Int32 → aSt → Option (Unit × aSt)) (x0 : Nat) (x1 : Int32) (σ : aSt) : Option (Unit × aSt) := k2 x0 (x1 + 1) σ
set_option maxRecDepth 20000 in
set_option maxHeartbeats 4000000 in
theorem TJ_X9_refreshLimits_105 (xs : Nat → Int32) (L : Nat) (N : Nat) (k2 : Nat → Int32 → aSt → Option (Unit × aSt)) (hk2 : ∀ (x0 : Nat) (x1 : Int32) (d2 : Value) (d3 : Value) (σ : aSt) (q : Unit × aSt), k2 x0 x1 σ = some q → Gr σ → isSale x0 → Ev xs L 63 2 [.ref x0, .int x1, d2, d3] [] σ (wV q.1) q.2 ∧ Gr q.2) (x0 : Nat) (x1 : Int32) (d2 : Value) (d3 : Value) (σ : aSt) (q : Unit × aSt) (h : J_X9_refreshLimits_105 N k2 x0 x1 σ = some q) (hG : Gr σ) (hx0 : isSale x0) : Ev xs L 63 105 [.ref x0, .int x1, d2, d3] [] σ (wV q.1) q.2 ∧ Gr q.2 := by
  have h : (k2 x0 (x1 + 1) σ) = some q := h
  refine ev_a (fun he => ev_iinc (ls' := [.ref x0, .int (x1 + 1), d2, d3]) rfl rfl rfl (Nat.le_of_ble_eq_true rfl) rfl he) ?_
  refine ev_a (fun he => ev_goto rfl he) ?_
  exact hk2 x0 (x1 + 1) (d2) (d3) σ q h hG hx0
def J_X9_refreshLimits_99 (N : Nat) (k2 : Nat → Int32 → aSt → Option (Unit × aSt)) (k16 : Nat → Int32 → Nat → Int32 → aSt → Option (Unit × aSt)) (x0 : Nat) (x1 : Int32) (x2 : Nat) (x3 : Int32) (σ : aSt) : Option (Unit × aSt) := k16 x0 x1 x2 (x3 + 1) σ
set_option maxRecDepth 20000 in
set_option maxHeartbeats 4000000 in
theorem TJ_X9_refreshLimits_99 (xs : Nat → Int32) (L : Nat) (N : Nat) (k2 : Nat → Int32 → aSt → Option (Unit × aSt)) (k16 : Nat → Int32 → Nat → Int32 → aSt → Option (Unit × aSt)) (hk2 : ∀ (x0 : Nat) (x1 : Int32) (d2 : Value) (d3 : Value) (σ : aSt) (q : Unit × aSt), k2 x0 x1 σ = some q → Gr σ → isSale x0 → Ev xs L 63 2 [.ref x0, .int x1, d2, d3] [] σ (wV q.1) q.2 ∧ Gr q.2) (hk16 : ∀ (x0 : Nat) (x1 : Int32) (x2 : Nat) (x3 : Int32) (σ : aSt) (q : Unit × aSt), k16 x0 x1 x2 x3 σ = some q → Gr σ → isSale x0 → isCk x2 → Ev xs L 63 16 [.ref x0, .int x1, .ref x2, .int x3] [] σ (wV q.1) q.2 ∧ Gr q.2) (x0 : Nat) (x1 : Int32) (x2 : Nat) (x3 : Int32) (σ : aSt) (q : Unit × aSt) (h : J_X9_refreshLimits_99 N k2 k16 x0 x1 x2 x3 σ = some q) (hG : Gr σ) (hx0 : isSale x0) (hx2 : isCk x2) : Ev xs L 63 99 [.ref x0, .int x1, .ref x2, .int x3] [] σ (wV q.1) q.2 ∧ Gr q.2 := by
  have h : (k16 x0 x1 x2 (x3 + 1) σ) = some q := h
  refine ev_a (fun he => ev_iinc (ls' := [.ref x0, .int x1, .ref x2, .int (x3 + 1)]) rfl rfl rfl (Nat.le_of_ble_eq_true rfl) rfl he) ?_
  refine ev_a (fun he => ev_goto rfl he) ?_
  exact hk16 x0 x1 x2 (x3 + 1) σ q h hG hx0 hx2
def J_X9_refreshLimits_98 (N : Nat) (k2 : Nat → Int32 → aSt → Option (Unit × aSt)) (k16 : Nat → Int32 → Nat → Int32 → aSt → Option (Unit × aSt)) (x0 : Nat) (x1 : Int32) (x2 : Nat) (x3 : Int32) (s0 : Nat) (s1 : Int32) (s2 : Int32) (σ : aSt) : Option (Unit × aSt) := cO (¬ (s1 < 0 ∨ 6 ≤ s1.toNatClampNeg)) (lt (aWI σ (s0 + 1) s1.toNatClampNeg s2) fun σ2 => J_X9_refreshLimits_99 N k2 k16 x0 x1 x2 x3 σ2)
set_option maxRecDepth 20000 in
set_option maxHeartbeats 4000000 in
theorem TJ_X9_refreshLimits_98 (xs : Nat → Int32) (L : Nat) (N : Nat) (k2 : Nat → Int32 → aSt → Option (Unit × aSt)) (k16 : Nat → Int32 → Nat → Int32 → aSt → Option (Unit × aSt)) (hk2 : ∀ (x0 : Nat) (x1 : Int32) (d2 : Value) (d3 : Value) (σ : aSt) (q : Unit × aSt), k2 x0 x1 σ = some q → Gr σ → isSale x0 → Ev xs L 63 2 [.ref x0, .int x1, d2, d3] [] σ (wV q.1) q.2 ∧ Gr q.2) (hk16 : ∀ (x0 : Nat) (x1 : Int32) (x2 : Nat) (x3 : Int32) (σ : aSt) (q : Unit × aSt), k16 x0 x1 x2 x3 σ = some q → Gr σ → isSale x0 → isCk x2 → Ev xs L 63 16 [.ref x0, .int x1, .ref x2, .int x3] [] σ (wV q.1) q.2 ∧ Gr q.2) (x0 : Nat) (x1 : Int32) (x2 : Nat) (x3 : Int32) (s0 : Nat) (s1 : Int32) (s2 : Int32) (σ : aSt) (q : Unit × aSt) (h : J_X9_refreshLimits_98 N k2 k16 x0 x1 x2 x3 s0 s1 s2 σ = some q) (hG : Gr σ) (hx0 : isSale x0) (hx2 : isCk x2) (hs0 : isCk s0) : Ev xs L 63 98 [.ref x0, .int x1, .ref x2, .int x3] [.int s2, .int s1, .ref (s0 + 1)] σ (wV q.1) q.2 ∧ Gr q.2 := by
  have h : (cO (¬ (s1 < 0 ∨ 6 ≤ s1.toNatClampNeg)) (lt (aWI σ (s0 + 1) s1.toNatClampNeg s2) fun σ2 => J_X9_refreshLimits_99 N k2 k16 x0 x1 x2 x3 σ2)) = some q := h
  obtain ⟨hc1, h⟩ := cO_inv h
  obtain ⟨σ2, e3, h⟩ := lt_inv h
  have hG4 : Gr σ2 := gr_wi e3 hG
  refine ev_a (fun he => ev_astI (k := s1.toNatClampNeg) rfl (gr_ar hG (sh_Ck1 hs0)) hc1 rfl rfl e3 he) ?_
  exact TJ_X9_refreshLimits_99 xs L N k2 k16 hk2 hk16 x0 x1 x2 x3 σ2 q h hG4 hx0 hx2
def J_X9_refreshLimits_63 (N : Nat) (k2 : Nat → Int32 → aSt → Option (Unit × aSt)) (k16 : Nat → Int32 → Nat → Int32 → aSt → Option (Unit × aSt)) (x0 : Nat) (x1 : Int32) (x2 : Nat) (x3 : Int32) (σ : aSt) : Option (Unit × aSt) := if x3 ≠ (aI σ x0 5) then cO (¬ (x3 < 0 ∨ 6 ≤ x3.toNatClampNeg)) (oB (F_X2_limitOf N x3 (aI σ x2 0) (x0 + 28 + 2 * x3.toNatClampNeg) σ) fun y7 σ8 => J_X9_refreshLimits_98 N k2 k16 x0 x1 x2 x3 x2 x3 y7 σ8) else J_X9_refreshLimits_98 N k2 k16 x0 x1 x2 x3 x2 x3 0 σ
set_option maxRecDepth 20000 in
set_option maxHeartbeats 4000000 in
theorem TJ_X9_refreshLimits_63 (xs : Nat → Int32) (L : Nat) (N : Nat) (k2 : Nat → Int32 → aSt → Option (Unit × aSt)) (k16 : Nat → Int32 → Nat → Int32 → aSt → Option (Unit × aSt)) (hk2 : ∀ (x0 : Nat) (x1 : Int32) (d2 : Value) (d3 : Value) (σ : aSt) (q : Unit × aSt), k2 x0 x1 σ = some q → Gr σ → isSale x0 → Ev xs L 63 2 [.ref x0, .int x1, d2, d3] [] σ (wV q.1) q.2 ∧ Gr q.2) (hk16 : ∀ (x0 : Nat) (x1 : Int32) (x2 : Nat) (x3 : Int32) (σ : aSt) (q : Unit × aSt), k16 x0 x1 x2 x3 σ = some q → Gr σ → isSale x0 → isCk x2 → Ev xs L 63 16 [.ref x0, .int x1, .ref x2, .int x3] [] σ (wV q.1) q.2 ∧ Gr q.2) (x0 : Nat) (x1 : Int32) (x2 : Nat) (x3 : Int32) (σ : aSt) (q : Unit × aSt) (h : J_X9_refreshLimits_63 N k2 k16 x0 x1 x2 x3 σ = some q) (hG : Gr σ) (hx0 : isSale x0) (hx2 : isCk x2) : Ev xs L 63 63 [.ref x0, .int x1, .ref x2, .int x3] [] σ (wV q.1) q.2 ∧ Gr q.2 := by
  have h : (if x3 ≠ (aI σ x0 5) then cO (¬ (x3 < 0 ∨ 6 ≤ x3.toNatClampNeg)) (oB (F_X2_limitOf N x3 (aI σ x2 0) (x0 + 28 + 2 * x3.toNatClampNeg) σ) fun y7 σ8 => J_X9_refreshLimits_98 N k2 k16 x0 x1 x2 x3 x2 x3 y7 σ8) else J_X9_refreshLimits_98 N k2 k16 x0 x1 x2 x3 x2 x3 0 σ) = some q := h
  refine ev_a (fun he => ev_aload rfl rfl he) ?_
  refine ev_a (fun he => ev_getR rfl (gr_ob (n := 5) hG (sh_Ck0 hx2)) (gr_p hG (gf_Ck4 hx2)) he) ?_
  refine ev_a (fun he => ev_iload rfl rfl he) ?_
  refine ev_a (fun he => ev_iload rfl rfl he) ?_
  refine ev_a (fun he => ev_aload rfl rfl he) ?_
  refine ev_a (fun he => ev_getI rfl (gr_ob (n := 9) hG (sh_Sale0 hx0)) he) ?_
  refine ev_b (c := x3 ≠ (aI σ x0 5)) (fun ht hf => ev_cne rfl ht hf) (fun hc5 => ?_) (fun hc5 => ?_)
  · rw [if_pos hc5] at h
    refine ev_a (fun he => ev_aload rfl rfl he) ?_
    refine ev_a (fun he => ev_getR rfl (gr_ob (n := 9) hG (sh_Sale0 hx0)) (gr_p hG (gf_Sale0 hx0)) he) ?_
    refine ev_a (fun he => ev_iload rfl rfl he) ?_
    refine ev_a (fun he => ev_aload rfl rfl he) ?_
    refine ev_a (fun he => ev_getI rfl (gr_ob (n := 5) hG (sh_Ck0 hx2)) he) ?_
    refine ev_a (fun he => ev_aload rfl rfl he) ?_
    refine ev_a (fun he => ev_getR rfl (gr_ob (n := 9) hG (sh_Sale0 hx0)) (gr_p hG (gf_Sale2 hx0)) he) ?_
    refine ev_a (fun he => ev_iload rfl rfl he) ?_
    obtain ⟨hc6, h⟩ := cO_inv h
    refine ev_a (fun he => ev_aldR rfl (gr_ar hG (sh_Sale2 hx0)) (by decide) hc6 (gr_p hG (el_Pu hx0 hc6).1) he) ?_
    obtain ⟨y7, σ8, h9, h⟩ := oB_inv h
    obtain ⟨c10, hG11⟩ := T_X2_limitOf xs L N x3 (aI σ x2 0) (x0 + 28 + 2 * x3.toNatClampNeg) σ (y7, σ8) h9 hG (el_Pu hx0 hc6).2
    refine ev_a (fun he => ev_callV (as := [.int x3, .int (aI σ x2 0), .ref (x0 + 28 + 2 * x3.toNatClampNeg)]) rfl (gr_ob (n := 7) hG rfl) rfl rfl rfl (Nat.le_of_ble_eq_true rfl) (Nat.le_of_ble_eq_true rfl) c10 he) ?_
    exact TJ_X9_refreshLimits_98 xs L N k2 k16 hk2 hk16 x0 x1 x2 x3 x2 x3 y7 σ8 q h hG11 hx0 hx2 hx2
  · rw [if_neg hc5] at h
    refine ev_a (fun he => ev_push rfl he) ?_
    refine ev_a (fun he => ev_goto rfl he) ?_
    exact TJ_X9_refreshLimits_98 xs L N k2 k16 hk2 hk16 x0 x1 x2 x3 x2 x3 0 σ q h hG hx0 hx2 hx2
def H_X9_refreshLimits_16 (N : Nat) (k2 : Nat → Int32 → aSt → Option (Unit × aSt)) : Nat → Nat → Int32 → Nat → Int32 → aSt → Option (Unit × aSt)
  | 0, _, _, _, _, _ => none
  | n + 1, x0, x1, x2, x3, σ => if (aI σ 11 3) ≤ x3 then J_X9_refreshLimits_105 N k2 x0 x1 σ else oB (F_X1_isEmpty N x2 σ) fun y13 σ14 => if y13 ≠ 0 then J_X9_refreshLimits_105 N k2 x0 x1 σ14 else if (aI σ14 x2 3) = (aI σ14 x0 6) then J_X9_refreshLimits_63 N k2 (H_X9_refreshLimits_16 N k2 n) x0 x1 x2 x3 σ14 else cO (¬ (x3 < 0 ∨ 6 ≤ x3.toNatClampNeg)) (if (aI σ14 (x0 + 28 + 2 * x3.toNatClampNeg) 4) ≠ ((aI σ14 x0 6) - 1) then J_X9_refreshLimits_99 N k2 (H_X9_refreshLimits_16 N k2 n) x0 x1 x2 x3 σ14 else J_X9_refreshLimits_63 N k2 (H_X9_refreshLimits_16 N k2 n) x0 x1 x2 x3 σ14)
set_option maxRecDepth 20000 in
set_option maxHeartbeats 4000000 in
theorem TH_X9_refreshLimits_16 (xs : Nat → Int32) (L : Nat) (N : Nat) (k2 : Nat → Int32 → aSt → Option (Unit × aSt)) (hk2 : ∀ (x0 : Nat) (x1 : Int32) (d2 : Value) (d3 : Value) (σ : aSt) (q : Unit × aSt), k2 x0 x1 σ = some q → Gr σ → isSale x0 → Ev xs L 63 2 [.ref x0, .int x1, d2, d3] [] σ (wV q.1) q.2 ∧ Gr q.2) : ∀ (n : Nat) (x0 : Nat) (x1 : Int32) (x2 : Nat) (x3 : Int32) (σ : aSt) (q : Unit × aSt), H_X9_refreshLimits_16 N k2 n x0 x1 x2 x3 σ = some q → Gr σ → isSale x0 → isCk x2 → Ev xs L 63 16 [.ref x0, .int x1, .ref x2, .int x3] [] σ (wV q.1) q.2 ∧ Gr q.2 := by
  intro n
  induction n with
  | zero =>
    intro x0 x1 x2 x3 σ q h hG hx0 hx2
    exact absurd (show (none : Option (Unit × aSt)) = some q from h) (by simp)
  | succ n ih =>
    intro x0 x1 x2 x3 σ q h hG hx0 hx2
    have hk16 : ∀ (x0 : Nat) (x1 : Int32) (x2 : Nat) (x3 : Int32) (σ : aSt) (q : Unit × aSt), H_X9_refreshLimits_16 N k2 n x0 x1 x2 x3 σ = some q → Gr σ → isSale x0 → isCk x2 → Ev xs L 63 16 [.ref x0, .int x1, .ref x2, .int x3] [] σ (wV q.1) q.2 ∧ Gr q.2 := ih
    have h : (if (aI σ 11 3) ≤ x3 then J_X9_refreshLimits_105 N k2 x0 x1 σ else oB (F_X1_isEmpty N x2 σ) fun y13 σ14 => if y13 ≠ 0 then J_X9_refreshLimits_105 N k2 x0 x1 σ14 else if (aI σ14 x2 3) = (aI σ14 x0 6) then J_X9_refreshLimits_63 N k2 (H_X9_refreshLimits_16 N k2 n) x0 x1 x2 x3 σ14 else cO (¬ (x3 < 0 ∨ 6 ≤ x3.toNatClampNeg)) (if (aI σ14 (x0 + 28 + 2 * x3.toNatClampNeg) 4) ≠ ((aI σ14 x0 6) - 1) then J_X9_refreshLimits_99 N k2 (H_X9_refreshLimits_16 N k2 n) x0 x1 x2 x3 σ14 else J_X9_refreshLimits_63 N k2 (H_X9_refreshLimits_16 N k2 n) x0 x1 x2 x3 σ14)) = some q := h
    refine ev_a (fun he => ev_iload rfl rfl he) ?_
    refine ev_a (fun he => ev_aload rfl rfl he) ?_
    refine ev_a (fun he => ev_getR rfl (gr_ob (n := 9) hG (sh_Sale0 hx0)) (gr_p hG (gf_Sale0 hx0)) he) ?_
    refine ev_a (fun he => ev_getI rfl (gr_ob (n := 7) hG rfl) he) ?_
    refine ev_b (c := (aI σ 11 3) ≤ x3) (fun ht hf => ev_cge rfl ht hf) (fun hc12 => ?_) (fun hc12 => ?_)
    · rw [if_pos hc12] at h
      exact TJ_X9_refreshLimits_105 xs L N k2 hk2 x0 x1 (.ref x2) (.int x3) σ q h hG hx0
    · rw [if_neg hc12] at h
      refine ev_a (fun he => ev_aload rfl rfl he) ?_
      obtain ⟨y13, σ14, h15, h⟩ := oB_inv h
      obtain ⟨c16, hG17⟩ := T_X1_isEmpty xs L N x2 σ (y13, σ14) h15 hG hx2
      refine ev_a (fun he => ev_callV (as := []) rfl (gr_ob (n := 5) hG (sh_Ck0 hx2)) rfl rfl rfl (Nat.le_of_ble_eq_true rfl) (Nat.le_of_ble_eq_true rfl) c16 he) ?_
      refine ev_b (c := y13 ≠ 0) (fun ht hf => ev_ifne rfl ht hf) (fun hc18 => ?_) (fun hc18 => ?_)
      · rw [if_pos hc18] at h
        exact TJ_X9_refreshLimits_105 xs L N k2 hk2 x0 x1 (.ref x2) (.int x3) σ14 q h hG17 hx0
      · rw [if_neg hc18] at h
        refine ev_a (fun he => ev_aload rfl rfl he) ?_
        refine ev_a (fun he => ev_getI rfl (gr_ob (n := 5) hG17 (sh_Ck0 hx2)) he) ?_
        refine ev_a (fun he => ev_aload rfl rfl he) ?_
        refine ev_a (fun he => ev_getI rfl (gr_ob (n := 9) hG17 (sh_Sale0 hx0)) he) ?_
        refine ev_b (c := (aI σ14 x2 3) = (aI σ14 x0 6)) (fun ht hf => ev_ceq rfl ht hf) (fun hc19 => ?_) (fun hc19 => ?_)
        · rw [if_pos hc19] at h
          exact TJ_X9_refreshLimits_63 xs L N k2 (H_X9_refreshLimits_16 N k2 n) hk2 hk16 x0 x1 x2 x3 σ14 q h hG17 hx0 hx2
        · rw [if_neg hc19] at h
          refine ev_a (fun he => ev_aload rfl rfl he) ?_
          refine ev_a (fun he => ev_getR rfl (gr_ob (n := 9) hG17 (sh_Sale0 hx0)) (gr_p hG17 (gf_Sale2 hx0)) he) ?_
          refine ev_a (fun he => ev_iload rfl rfl he) ?_
          obtain ⟨hc20, h⟩ := cO_inv h
          refine ev_a (fun he => ev_aldR rfl (gr_ar hG17 (sh_Sale2 hx0)) (by decide) hc20 (gr_p hG17 (el_Pu hx0 hc20).1) he) ?_
          refine ev_a (fun he => ev_getI rfl (gr_ob (n := 5) hG17 (sh_Pu0 (el_Pu hx0 hc20).2)) he) ?_
          refine ev_a (fun he => ev_aload rfl rfl he) ?_
          refine ev_a (fun he => ev_getI rfl (gr_ob (n := 9) hG17 (sh_Sale0 hx0)) he) ?_
          refine ev_a (fun he => ev_push rfl he) ?_
          refine ev_a (fun he => ev_bin (z := (aI σ14 x0 6) - 1) rfl rfl he) ?_
          refine ev_b (c := (aI σ14 (x0 + 28 + 2 * x3.toNatClampNeg) 4) ≠ ((aI σ14 x0 6) - 1)) (fun ht hf => ev_cne rfl ht hf) (fun hc21 => ?_) (fun hc21 => ?_)
          · rw [if_pos hc21] at h
            exact TJ_X9_refreshLimits_99 xs L N k2 (H_X9_refreshLimits_16 N k2 n) hk2 hk16 x0 x1 x2 x3 σ14 q h hG17 hx0 hx2
          · rw [if_neg hc21] at h
            exact TJ_X9_refreshLimits_63 xs L N k2 (H_X9_refreshLimits_16 N k2 n) hk2 hk16 x0 x1 x2 x3 σ14 q h hG17 hx0 hx2
def H_X9_refreshLimits_2 (N : Nat) : Nat → Nat → Int32 → aSt → Option (Unit × aSt)
  | 0, _, _, _ => none
  | n + 1, x0, x1, σ => if 3 ≤ x1 then some ((), σ) else cO (¬ (x1 < 0 ∨ 3 ≤ x1.toNatClampNeg)) (H_X9_refreshLimits_16 N (H_X9_refreshLimits_2 N n) N x0 x1 (x0 + 40 + 2 * x1.toNatClampNeg) 0 σ)
set_option maxRecDepth 20000 in
set_option maxHeartbeats 4000000 in
theorem TH_X9_refreshLimits_2 (xs : Nat → Int32) (L : Nat) (N : Nat) : ∀ (n : Nat) (x0 : Nat) (x1 : Int32) (d2 : Value) (d3 : Value) (σ : aSt) (q : Unit × aSt), H_X9_refreshLimits_2 N n x0 x1 σ = some q → Gr σ → isSale x0 → Ev xs L 63 2 [.ref x0, .int x1, d2, d3] [] σ (wV q.1) q.2 ∧ Gr q.2 := by
  intro n
  induction n with
  | zero =>
    intro x0 x1 d2 d3 σ q h hG hx0
    exact absurd (show (none : Option (Unit × aSt)) = some q from h) (by simp)
  | succ n ih =>
    intro x0 x1 d2 d3 σ q h hG hx0
    have hk2 : ∀ (x0 : Nat) (x1 : Int32) (d2 : Value) (d3 : Value) (σ : aSt) (q : Unit × aSt), H_X9_refreshLimits_2 N n x0 x1 σ = some q → Gr σ → isSale x0 → Ev xs L 63 2 [.ref x0, .int x1, d2, d3] [] σ (wV q.1) q.2 ∧ Gr q.2 := ih
    have h : (if 3 ≤ x1 then some ((), σ) else cO (¬ (x1 < 0 ∨ 3 ≤ x1.toNatClampNeg)) (H_X9_refreshLimits_16 N (H_X9_refreshLimits_2 N n) N x0 x1 (x0 + 40 + 2 * x1.toNatClampNeg) 0 σ)) = some q := h
    refine ev_a (fun he => ev_iload rfl rfl he) ?_
    refine ev_a (fun he => ev_push rfl he) ?_
    refine ev_b (c := 3 ≤ x1) (fun ht hf => ev_cge rfl ht hf) (fun hc22 => ?_) (fun hc22 => ?_)
    · rw [if_pos hc22] at h
      cases h
      exact ⟨ev_retV rfl, hG⟩
    · rw [if_neg hc22] at h
      refine ev_a (fun he => ev_aload rfl rfl he) ?_
      refine ev_a (fun he => ev_getR rfl (gr_ob (n := 9) hG (sh_Sale0 hx0)) (gr_p hG (gf_Sale4 hx0)) he) ?_
      refine ev_a (fun he => ev_iload rfl rfl he) ?_
      obtain ⟨hc23, h⟩ := cO_inv h
      refine ev_a (fun he => ev_aldR rfl (gr_ar hG (sh_Sale3 hx0)) (by decide) hc23 (gr_p hG (el_Ck hx0 hc23).1) he) ?_
      refine ev_a (fun he => ev_astore (ls' := [.ref x0, .int x1, .ref (x0 + 40 + 2 * x1.toNatClampNeg), d3]) rfl (Nat.le_of_ble_eq_true rfl) rfl he) ?_
      refine ev_a (fun he => ev_push rfl he) ?_
      refine ev_a (fun he => ev_istore (ls' := [.ref x0, .int x1, .ref (x0 + 40 + 2 * x1.toNatClampNeg), .int 0]) rfl (Nat.le_of_ble_eq_true rfl) rfl he) ?_
      exact TH_X9_refreshLimits_16 xs L N (H_X9_refreshLimits_2 N n) hk2 N x0 x1 (x0 + 40 + 2 * x1.toNatClampNeg) 0 σ q h hG hx0 (el_Ck hx0 hc23).2
def F_X9_refreshLimits (N : Nat) (x0 : Nat) (σ : aSt) : Option (Unit × aSt) := H_X9_refreshLimits_2 N N x0 0 σ
set_option maxRecDepth 20000 in
set_option maxHeartbeats 4000000 in
theorem T_X9_refreshLimits (xs : Nat → Int32) (L : Nat) (N : Nat) (x0 : Nat) (σ : aSt) (q : Unit × aSt) (h : F_X9_refreshLimits N x0 σ = some q) (hG : Gr σ) (hx0 : isSale x0) : Cal xs L 63 [.ref x0] σ (wV q.1) q.2 ∧ Gr q.2 := by
  have h : (H_X9_refreshLimits_2 N N x0 0 σ) = some q := h
  show Ev xs L 63 0 [.ref x0, aU, aU, aU] [] σ (wV q.1) q.2 ∧ Gr q.2
  refine ev_a (fun he => ev_push rfl he) ?_
  refine ev_a (fun he => ev_istore (ls' := [.ref x0, .int 0, aU, aU]) rfl (Nat.le_of_ble_eq_true rfl) rfl he) ?_
  exact TH_X9_refreshLimits_2 xs L N N x0 0 (aU) (aU) σ q h hG hx0
def J_X9_passQuietSeconds_84 (N : Nat) (k52 : Nat → Int32 → Int32 → aSt → Option (Unit × aSt)) (x0 : Nat) (x1 : Int32) (x2 : Int32) (σ : aSt) : Option (Unit × aSt) := k52 x0 x1 (x2 + 1) σ
set_option maxRecDepth 20000 in
set_option maxHeartbeats 4000000 in
theorem TJ_X9_passQuietSeconds_84 (xs : Nat → Int32) (L : Nat) (N : Nat) (k52 : Nat → Int32 → Int32 → aSt → Option (Unit × aSt)) (hk52 : ∀ (x0 : Nat) (x1 : Int32) (x2 : Int32) (σ : aSt) (q : Unit × aSt), k52 x0 x1 x2 σ = some q → Gr σ → isSale x0 → Ev xs L 64 52 [.ref x0, .int x1, .int x2] [] σ (wV q.1) q.2 ∧ Gr q.2) (x0 : Nat) (x1 : Int32) (x2 : Int32) (σ : aSt) (q : Unit × aSt) (h : J_X9_passQuietSeconds_84 N k52 x0 x1 x2 σ = some q) (hG : Gr σ) (hx0 : isSale x0) : Ev xs L 64 84 [.ref x0, .int x1, .int x2] [] σ (wV q.1) q.2 ∧ Gr q.2 := by
  have h : (k52 x0 x1 (x2 + 1) σ) = some q := h
  refine ev_a (fun he => ev_iinc (ls' := [.ref x0, .int x1, .int (x2 + 1)]) rfl rfl rfl (Nat.le_of_ble_eq_true rfl) rfl he) ?_
  refine ev_a (fun he => ev_goto rfl he) ?_
  exact hk52 x0 x1 (x2 + 1) σ q h hG hx0
def H_X9_passQuietSeconds_52 (N : Nat) : Nat → Nat → Int32 → Int32 → aSt → Option (Unit × aSt)
  | 0, _, _, _, _ => none
  | n + 1, x0, x1, x2, σ => if 3 ≤ x2 then lt (aWI σ x0 6 ((aI σ x0 6) + x1)) fun σ2 => some ((), σ2) else cO (¬ (x2 < 0 ∨ 3 ≤ x2.toNatClampNeg)) (oB (F_X1_isEmpty N (x0 + 40 + 2 * x2.toNatClampNeg) σ) fun y6 σ7 => if y6 ≠ 0 then J_X9_passQuietSeconds_84 N (H_X9_passQuietSeconds_52 N n) x0 x1 x2 σ7 else cO (¬ (x2 < 0 ∨ 3 ≤ x2.toNatClampNeg)) (lt (aWI σ7 (x0 + 40 + 2 * x2.toNatClampNeg) 1 ((aI σ7 (x0 + 40 + 2 * x2.toNatClampNeg) 1) - x1)) fun σ13 => J_X9_passQuietSeconds_84 N (H_X9_passQuietSeconds_52 N n) x0 x1 x2 σ13))
set_option maxRecDepth 20000 in
set_option maxHeartbeats 4000000 in
theorem TH_X9_passQuietSeconds_52 (xs : Nat → Int32) (L : Nat) (N : Nat) : ∀ (n : Nat) (x0 : Nat) (x1 : Int32) (x2 : Int32) (σ : aSt) (q : Unit × aSt), H_X9_passQuietSeconds_52 N n x0 x1 x2 σ = some q → Gr σ → isSale x0 → Ev xs L 64 52 [.ref x0, .int x1, .int x2] [] σ (wV q.1) q.2 ∧ Gr q.2 := by
  intro n
  induction n with
  | zero =>
    intro x0 x1 x2 σ q h hG hx0
    exact absurd (show (none : Option (Unit × aSt)) = some q from h) (by simp)
  | succ n ih =>
    intro x0 x1 x2 σ q h hG hx0
    have hk52 : ∀ (x0 : Nat) (x1 : Int32) (x2 : Int32) (σ : aSt) (q : Unit × aSt), H_X9_passQuietSeconds_52 N n x0 x1 x2 σ = some q → Gr σ → isSale x0 → Ev xs L 64 52 [.ref x0, .int x1, .int x2] [] σ (wV q.1) q.2 ∧ Gr q.2 := ih
    have h : (if 3 ≤ x2 then lt (aWI σ x0 6 ((aI σ x0 6) + x1)) fun σ2 => some ((), σ2) else cO (¬ (x2 < 0 ∨ 3 ≤ x2.toNatClampNeg)) (oB (F_X1_isEmpty N (x0 + 40 + 2 * x2.toNatClampNeg) σ) fun y6 σ7 => if y6 ≠ 0 then J_X9_passQuietSeconds_84 N (H_X9_passQuietSeconds_52 N n) x0 x1 x2 σ7 else cO (¬ (x2 < 0 ∨ 3 ≤ x2.toNatClampNeg)) (lt (aWI σ7 (x0 + 40 + 2 * x2.toNatClampNeg) 1 ((aI σ7 (x0 + 40 + 2 * x2.toNatClampNeg) 1) - x1)) fun σ13 => J_X9_passQuietSeconds_84 N (H_X9_passQuietSeconds_52 N n) x0 x1 x2 σ13))) = some q := h
    refine ev_a (fun he => ev_iload rfl rfl he) ?_
    refine ev_a (fun he => ev_push rfl he) ?_
    refine ev_b (c := 3 ≤ x2) (fun ht hf => ev_cge rfl ht hf) (fun hc1 => ?_) (fun hc1 => ?_)
    · rw [if_pos hc1] at h
      refine ev_a (fun he => ev_aload rfl rfl he) ?_
      refine ev_a (fun he => ev_dupR rfl he) ?_
      refine ev_a (fun he => ev_getI rfl (gr_ob (n := 9) hG (sh_Sale0 hx0)) he) ?_
      refine ev_a (fun he => ev_iload rfl rfl he) ?_
      refine ev_a (fun he => ev_bin (z := (aI σ x0 6) + x1) rfl rfl he) ?_
      obtain ⟨σ2, e3, h⟩ := lt_inv h
      have hG4 : Gr σ2 := gr_wi e3 hG
      refine ev_a (fun he => ev_putI rfl (gr_ob (n := 9) hG (sh_Sale0 hx0)) e3 he) ?_
      cases h
      exact ⟨ev_retV rfl, hG4⟩
    · rw [if_neg hc1] at h
      refine ev_a (fun he => ev_aload rfl rfl he) ?_
      refine ev_a (fun he => ev_getR rfl (gr_ob (n := 9) hG (sh_Sale0 hx0)) (gr_p hG (gf_Sale4 hx0)) he) ?_
      refine ev_a (fun he => ev_iload rfl rfl he) ?_
      obtain ⟨hc5, h⟩ := cO_inv h
      refine ev_a (fun he => ev_aldR rfl (gr_ar hG (sh_Sale3 hx0)) (by decide) hc5 (gr_p hG (el_Ck hx0 hc5).1) he) ?_
      obtain ⟨y6, σ7, h8, h⟩ := oB_inv h
      obtain ⟨c9, hG10⟩ := T_X1_isEmpty xs L N (x0 + 40 + 2 * x2.toNatClampNeg) σ (y6, σ7) h8 hG (el_Ck hx0 hc5).2
      refine ev_a (fun he => ev_callV (as := []) rfl (gr_ob (n := 5) hG (sh_Ck0 (el_Ck hx0 hc5).2)) rfl rfl rfl (Nat.le_of_ble_eq_true rfl) (Nat.le_of_ble_eq_true rfl) c9 he) ?_
      refine ev_b (c := y6 ≠ 0) (fun ht hf => ev_ifne rfl ht hf) (fun hc11 => ?_) (fun hc11 => ?_)
      · rw [if_pos hc11] at h
        exact TJ_X9_passQuietSeconds_84 xs L N (H_X9_passQuietSeconds_52 N n) hk52 x0 x1 x2 σ7 q h hG10 hx0
      · rw [if_neg hc11] at h
        refine ev_a (fun he => ev_aload rfl rfl he) ?_
        refine ev_a (fun he => ev_getR rfl (gr_ob (n := 9) hG10 (sh_Sale0 hx0)) (gr_p hG10 (gf_Sale4 hx0)) he) ?_
        refine ev_a (fun he => ev_iload rfl rfl he) ?_
        obtain ⟨hc12, h⟩ := cO_inv h
        refine ev_a (fun he => ev_aldR rfl (gr_ar hG10 (sh_Sale3 hx0)) (by decide) hc12 (gr_p hG10 (el_Ck hx0 hc12).1) he) ?_
        refine ev_a (fun he => ev_dupR rfl he) ?_
        refine ev_a (fun he => ev_getI rfl (gr_ob (n := 5) hG10 (sh_Ck0 (el_Ck hx0 hc12).2)) he) ?_
        refine ev_a (fun he => ev_iload rfl rfl he) ?_
        refine ev_a (fun he => ev_bin (z := (aI σ7 (x0 + 40 + 2 * x2.toNatClampNeg) 1) - x1) rfl rfl he) ?_
        obtain ⟨σ13, e14, h⟩ := lt_inv h
        have hG15 : Gr σ13 := gr_wi e14 hG10
        refine ev_a (fun he => ev_putI rfl (gr_ob (n := 5) hG10 (sh_Ck0 (el_Ck hx0 hc12).2)) e14 he) ?_
        exact TJ_X9_passQuietSeconds_84 xs L N (H_X9_passQuietSeconds_52 N n) hk52 x0 x1 x2 σ13 q h hG15 hx0
def J_X9_passQuietSeconds_44 (N : Nat) (k6 : Nat → Int32 → Int32 → aSt → Option (Unit × aSt)) (x0 : Nat) (x1 : Int32) (x2 : Int32) (σ : aSt) : Option (Unit × aSt) := k6 x0 x1 (x2 + 1) σ
set_option maxRecDepth 20000 in
set_option maxHeartbeats 4000000 in
theorem TJ_X9_passQuietSeconds_44 (xs : Nat → Int32) (L : Nat) (N : Nat) (k6 : Nat → Int32 → Int32 → aSt → Option (Unit × aSt)) (hk6 : ∀ (x0 : Nat) (x1 : Int32) (x2 : Int32) (σ : aSt) (q : Unit × aSt), k6 x0 x1 x2 σ = some q → Gr σ → isSale x0 → Ev xs L 64 6 [.ref x0, .int x1, .int x2] [] σ (wV q.1) q.2 ∧ Gr q.2) (x0 : Nat) (x1 : Int32) (x2 : Int32) (σ : aSt) (q : Unit × aSt) (h : J_X9_passQuietSeconds_44 N k6 x0 x1 x2 σ = some q) (hG : Gr σ) (hx0 : isSale x0) : Ev xs L 64 44 [.ref x0, .int x1, .int x2] [] σ (wV q.1) q.2 ∧ Gr q.2 := by
  have h : (k6 x0 x1 (x2 + 1) σ) = some q := h
  refine ev_a (fun he => ev_iinc (ls' := [.ref x0, .int x1, .int (x2 + 1)]) rfl rfl rfl (Nat.le_of_ble_eq_true rfl) rfl he) ?_
  refine ev_a (fun he => ev_goto rfl he) ?_
  exact hk6 x0 x1 (x2 + 1) σ q h hG hx0
def H_X9_passQuietSeconds_6 (N : Nat) : Nat → Nat → Int32 → Int32 → aSt → Option (Unit × aSt)
  | 0, _, _, _, _ => none
  | n + 1, x0, x1, x2, σ => if 3 ≤ x2 then H_X9_passQuietSeconds_52 N N x0 x1 0 σ else cO (¬ (x2 < 0 ∨ 3 ≤ x2.toNatClampNeg)) (oB (F_X1_isEmpty N (x0 + 40 + 2 * x2.toNatClampNeg) σ) fun y18 σ19 => if y18 ≠ 0 then J_X9_passQuietSeconds_44 N (H_X9_passQuietSeconds_6 N n) x0 x1 x2 σ19 else cO (¬ (x2 < 0 ∨ 3 ≤ x2.toNatClampNeg)) (oB (F_X1_quietSeconds N (x0 + 40 + 2 * x2.toNatClampNeg) (aI σ19 11 3) σ19) fun y25 σ26 => oB (F_J9_min_7cf53 N x1 y25 σ26) fun y30 σ31 => J_X9_passQuietSeconds_44 N (H_X9_passQuietSeconds_6 N n) x0 y30 x2 σ31))
set_option maxRecDepth 20000 in
set_option maxHeartbeats 4000000 in
theorem TH_X9_passQuietSeconds_6 (xs : Nat → Int32) (L : Nat) (N : Nat) : ∀ (n : Nat) (x0 : Nat) (x1 : Int32) (x2 : Int32) (σ : aSt) (q : Unit × aSt), H_X9_passQuietSeconds_6 N n x0 x1 x2 σ = some q → Gr σ → isSale x0 → Ev xs L 64 6 [.ref x0, .int x1, .int x2] [] σ (wV q.1) q.2 ∧ Gr q.2 := by
  intro n
  induction n with
  | zero =>
    intro x0 x1 x2 σ q h hG hx0
    exact absurd (show (none : Option (Unit × aSt)) = some q from h) (by simp)
  | succ n ih =>
    intro x0 x1 x2 σ q h hG hx0
    have hk6 : ∀ (x0 : Nat) (x1 : Int32) (x2 : Int32) (σ : aSt) (q : Unit × aSt), H_X9_passQuietSeconds_6 N n x0 x1 x2 σ = some q → Gr σ → isSale x0 → Ev xs L 64 6 [.ref x0, .int x1, .int x2] [] σ (wV q.1) q.2 ∧ Gr q.2 := ih
    have h : (if 3 ≤ x2 then H_X9_passQuietSeconds_52 N N x0 x1 0 σ else cO (¬ (x2 < 0 ∨ 3 ≤ x2.toNatClampNeg)) (oB (F_X1_isEmpty N (x0 + 40 + 2 * x2.toNatClampNeg) σ) fun y18 σ19 => if y18 ≠ 0 then J_X9_passQuietSeconds_44 N (H_X9_passQuietSeconds_6 N n) x0 x1 x2 σ19 else cO (¬ (x2 < 0 ∨ 3 ≤ x2.toNatClampNeg)) (oB (F_X1_quietSeconds N (x0 + 40 + 2 * x2.toNatClampNeg) (aI σ19 11 3) σ19) fun y25 σ26 => oB (F_J9_min_7cf53 N x1 y25 σ26) fun y30 σ31 => J_X9_passQuietSeconds_44 N (H_X9_passQuietSeconds_6 N n) x0 y30 x2 σ31))) = some q := h
    refine ev_a (fun he => ev_iload rfl rfl he) ?_
    refine ev_a (fun he => ev_push rfl he) ?_
    refine ev_b (c := 3 ≤ x2) (fun ht hf => ev_cge rfl ht hf) (fun hc16 => ?_) (fun hc16 => ?_)
    · rw [if_pos hc16] at h
      refine ev_a (fun he => ev_push rfl he) ?_
      refine ev_a (fun he => ev_istore (ls' := [.ref x0, .int x1, .int 0]) rfl (Nat.le_of_ble_eq_true rfl) rfl he) ?_
      exact TH_X9_passQuietSeconds_52 xs L N N x0 x1 0 σ q h hG hx0
    · rw [if_neg hc16] at h
      refine ev_a (fun he => ev_aload rfl rfl he) ?_
      refine ev_a (fun he => ev_getR rfl (gr_ob (n := 9) hG (sh_Sale0 hx0)) (gr_p hG (gf_Sale4 hx0)) he) ?_
      refine ev_a (fun he => ev_iload rfl rfl he) ?_
      obtain ⟨hc17, h⟩ := cO_inv h
      refine ev_a (fun he => ev_aldR rfl (gr_ar hG (sh_Sale3 hx0)) (by decide) hc17 (gr_p hG (el_Ck hx0 hc17).1) he) ?_
      obtain ⟨y18, σ19, h20, h⟩ := oB_inv h
      obtain ⟨c21, hG22⟩ := T_X1_isEmpty xs L N (x0 + 40 + 2 * x2.toNatClampNeg) σ (y18, σ19) h20 hG (el_Ck hx0 hc17).2
      refine ev_a (fun he => ev_callV (as := []) rfl (gr_ob (n := 5) hG (sh_Ck0 (el_Ck hx0 hc17).2)) rfl rfl rfl (Nat.le_of_ble_eq_true rfl) (Nat.le_of_ble_eq_true rfl) c21 he) ?_
      refine ev_b (c := y18 ≠ 0) (fun ht hf => ev_ifne rfl ht hf) (fun hc23 => ?_) (fun hc23 => ?_)
      · rw [if_pos hc23] at h
        exact TJ_X9_passQuietSeconds_44 xs L N (H_X9_passQuietSeconds_6 N n) hk6 x0 x1 x2 σ19 q h hG22 hx0
      · rw [if_neg hc23] at h
        refine ev_a (fun he => ev_iload rfl rfl he) ?_
        refine ev_a (fun he => ev_aload rfl rfl he) ?_
        refine ev_a (fun he => ev_getR rfl (gr_ob (n := 9) hG22 (sh_Sale0 hx0)) (gr_p hG22 (gf_Sale4 hx0)) he) ?_
        refine ev_a (fun he => ev_iload rfl rfl he) ?_
        obtain ⟨hc24, h⟩ := cO_inv h
        refine ev_a (fun he => ev_aldR rfl (gr_ar hG22 (sh_Sale3 hx0)) (by decide) hc24 (gr_p hG22 (el_Ck hx0 hc24).1) he) ?_
        refine ev_a (fun he => ev_aload rfl rfl he) ?_
        refine ev_a (fun he => ev_getR rfl (gr_ob (n := 9) hG22 (sh_Sale0 hx0)) (gr_p hG22 (gf_Sale0 hx0)) he) ?_
        refine ev_a (fun he => ev_getI rfl (gr_ob (n := 7) hG22 rfl) he) ?_
        obtain ⟨y25, σ26, h27, h⟩ := oB_inv h
        obtain ⟨c28, hG29⟩ := T_X1_quietSeconds xs L N (x0 + 40 + 2 * x2.toNatClampNeg) (aI σ19 11 3) σ19 (y25, σ26) h27 hG22 (el_Ck hx0 hc24).2
        refine ev_a (fun he => ev_callV (as := [.int (aI σ19 11 3)]) rfl (gr_ob (n := 5) hG22 (sh_Ck0 (el_Ck hx0 hc24).2)) rfl rfl rfl (Nat.le_of_ble_eq_true rfl) (Nat.le_of_ble_eq_true rfl) c28 he) ?_
        obtain ⟨y30, σ31, h32, h⟩ := oB_inv h
        obtain ⟨c33, hG34⟩ := T_J9_min_7cf53 xs L N x1 y25 σ26 (y30, σ31) h32 hG29
        refine ev_a (fun he => ev_callS (as := [.int x1, .int y25]) rfl rfl rfl rfl (Nat.le_of_ble_eq_true rfl) (Nat.le_of_ble_eq_true rfl) c33 he) ?_
        refine ev_a (fun he => ev_istore (ls' := [.ref x0, .int y30, .int x2]) rfl (Nat.le_of_ble_eq_true rfl) rfl he) ?_
        exact TJ_X9_passQuietSeconds_44 xs L N (H_X9_passQuietSeconds_6 N n) hk6 x0 y30 x2 σ31 q h hG34 hx0
def F_X9_passQuietSeconds (N : Nat) (x0 : Nat) (σ : aSt) : Option (Unit × aSt) := H_X9_passQuietSeconds_6 N N x0 999 0 σ
set_option maxRecDepth 20000 in
set_option maxHeartbeats 4000000 in
theorem T_X9_passQuietSeconds (xs : Nat → Int32) (L : Nat) (N : Nat) (x0 : Nat) (σ : aSt) (q : Unit × aSt) (h : F_X9_passQuietSeconds N x0 σ = some q) (hG : Gr σ) (hx0 : isSale x0) : Cal xs L 64 [.ref x0] σ (wV q.1) q.2 ∧ Gr q.2 := by
  have h : (H_X9_passQuietSeconds_6 N N x0 999 0 σ) = some q := h
  show Ev xs L 64 0 [.ref x0, aU, aU] [] σ (wV q.1) q.2 ∧ Gr q.2
  refine ev_a (fun he => ev_push rfl he) ?_
  refine ev_a (fun he => ev_istore (ls' := [.ref x0, .int 999, aU]) rfl (Nat.le_of_ble_eq_true rfl) rfl he) ?_
  refine ev_a (fun he => ev_push rfl he) ?_
  refine ev_a (fun he => ev_istore (ls' := [.ref x0, .int 999, .int 0]) rfl (Nat.le_of_ble_eq_true rfl) rfl he) ?_
  exact TH_X9_passQuietSeconds_6 xs L N N x0 999 0 σ q h hG hx0
