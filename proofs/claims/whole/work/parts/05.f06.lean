def H_X7_open_22 (N : Nat) : Nat → Nat → Int32 → aSt → Option (Unit × aSt)
  | 0, _, _, _ => none
  | n + 1, x0, x2, σ => if 6 ≤ x2 then some ((), σ) else cO (¬ (x2 < 0 ∨ 6 ≤ x2.toNatClampNeg)) (lt (aWI σ (x0 + 1) x2.toNatClampNeg 0) fun σ3 => (H_X7_open_22 N n) x0 (x2 + 1) σ3)
set_option maxRecDepth 20000 in
set_option maxHeartbeats 4000000 in
theorem TH_X7_open_22 (xs : Nat → Int32) (L : Nat) (N : Nat) : ∀ (n : Nat) (x0 : Nat) (x2 : Int32) (d1 : Value) (σ : aSt) (q : Unit × aSt), H_X7_open_22 N n x0 x2 σ = some q → Gr σ → isPu x0 → Ev xs L 33 22 [.ref x0, d1, .int x2] [] σ (wV q.1) q.2 ∧ Gr q.2 := by
  intro n
  induction n with
  | zero =>
    intro x0 x2 d1 σ q h hG hx0
    exact absurd (show (none : Option (Unit × aSt)) = some q from h) (by simp)
  | succ n ih =>
    intro x0 x2 d1 σ q h hG hx0
    have hk22 : ∀ (x0 : Nat) (x2 : Int32) (d1 : Value) (σ : aSt) (q : Unit × aSt), H_X7_open_22 N n x0 x2 σ = some q → Gr σ → isPu x0 → Ev xs L 33 22 [.ref x0, d1, .int x2] [] σ (wV q.1) q.2 ∧ Gr q.2 := ih
    have h : (if 6 ≤ x2 then some ((), σ) else cO (¬ (x2 < 0 ∨ 6 ≤ x2.toNatClampNeg)) (lt (aWI σ (x0 + 1) x2.toNatClampNeg 0) fun σ3 => (H_X7_open_22 N n) x0 (x2 + 1) σ3)) = some q := h
    refine ev_a (fun he => ev_iload rfl rfl he) ?_
    refine ev_a (fun he => ev_push rfl he) ?_
    refine ev_b (c := 6 ≤ x2) (fun ht hf => ev_cge rfl ht hf) (fun hc1 => ?_) (fun hc1 => ?_)
    · rw [if_pos hc1] at h
      cases h
      exact ⟨ev_retV rfl, hG⟩
    · rw [if_neg hc1] at h
      refine ev_a (fun he => ev_aload rfl rfl he) ?_
      refine ev_a (fun he => ev_getR rfl (gr_ob (n := 5) hG (sh_Pu0 hx0)) (gr_p hG (gf_Pu3 hx0)) he) ?_
      refine ev_a (fun he => ev_iload rfl rfl he) ?_
      refine ev_a (fun he => ev_push rfl he) ?_
      obtain ⟨hc2, h⟩ := cO_inv h
      obtain ⟨σ3, e4, h⟩ := lt_inv h
      have hG5 : Gr σ3 := gr_wi e4 hG
      refine ev_a (fun he => ev_astI (k := x2.toNatClampNeg) rfl (gr_ar hG (sh_Pu1 hx0)) hc2 rfl rfl e4 he) ?_
      refine ev_a (fun he => ev_iinc (ls' := [.ref x0, (aKl d1), .int (x2 + 1)]) rfl rfl rfl (Nat.le_of_ble_eq_true rfl) rfl he) ?_
      refine ev_a (fun he => ev_goto rfl he) ?_
      exact hk22 x0 (x2 + 1) ((aKl d1)) σ3 q h hG5 hx0
def F_X7_open (N : Nat) (x0 : Nat) (x1 : Int32) (σ : aSt) : Option (Unit × aSt) := lt (aWI σ x0 0 x1) fun σ6 => lt (aWI σ6 x0 1 0) fun σ9 => lt (aWI σ9 x0 2 0) fun σ12 => lt (aWI σ12 x0 4 ((-1))) fun σ15 => H_X7_open_22 N N x0 0 σ15
set_option maxRecDepth 20000 in
set_option maxHeartbeats 4000000 in
theorem T_X7_open (xs : Nat → Int32) (L : Nat) (N : Nat) (x0 : Nat) (x1 : Int32) (σ : aSt) (q : Unit × aSt) (h : F_X7_open N x0 x1 σ = some q) (hG : Gr σ) (hx0 : isPu x0) : Cal xs L 33 [.ref x0, .int x1] σ (wV q.1) q.2 ∧ Gr q.2 := by
  have h : (lt (aWI σ x0 0 x1) fun σ6 => lt (aWI σ6 x0 1 0) fun σ9 => lt (aWI σ9 x0 2 0) fun σ12 => lt (aWI σ12 x0 4 ((-1))) fun σ15 => H_X7_open_22 N N x0 0 σ15) = some q := h
  show Ev xs L 33 0 [.ref x0, .int x1, aU] [] σ (wV q.1) q.2 ∧ Gr q.2
  refine ev_a (fun he => ev_aload rfl rfl he) ?_
  refine ev_a (fun he => ev_iload rfl rfl he) ?_
  obtain ⟨σ6, e7, h⟩ := lt_inv h
  have hG8 : Gr σ6 := gr_wi e7 hG
  refine ev_a (fun he => ev_putI rfl (gr_ob (n := 5) hG (sh_Pu0 hx0)) e7 he) ?_
  refine ev_a (fun he => ev_aload rfl rfl he) ?_
  refine ev_a (fun he => ev_push rfl he) ?_
  obtain ⟨σ9, e10, h⟩ := lt_inv h
  have hG11 : Gr σ9 := gr_wi e10 hG8
  refine ev_a (fun he => ev_putI rfl (gr_ob (n := 5) hG8 (sh_Pu0 hx0)) e10 he) ?_
  refine ev_a (fun he => ev_aload rfl rfl he) ?_
  refine ev_a (fun he => ev_push rfl he) ?_
  obtain ⟨σ12, e13, h⟩ := lt_inv h
  have hG14 : Gr σ12 := gr_wi e13 hG11
  refine ev_a (fun he => ev_putI rfl (gr_ob (n := 5) hG11 (sh_Pu0 hx0)) e13 he) ?_
  refine ev_a (fun he => ev_aload rfl rfl he) ?_
  refine ev_a (fun he => ev_push rfl he) ?_
  obtain ⟨σ15, e16, h⟩ := lt_inv h
  have hG17 : Gr σ15 := gr_wi e16 hG14
  refine ev_a (fun he => ev_putI rfl (gr_ob (n := 5) hG14 (sh_Pu0 hx0)) e16 he) ?_
  refine ev_a (fun he => ev_push rfl he) ?_
  refine ev_a (fun he => ev_istore (ls' := [.ref x0, .int x1, .int 0]) rfl (Nat.le_of_ble_eq_true rfl) rfl he) ?_
  exact TH_X7_open_22 xs L N N x0 0 (.int x1) σ15 q h hG17 hx0
def F_X7_pay (N : Nat) (x0 : Nat) (x1 : Int32) (x2 : Nat) (x3 : Int32) (σ : aSt) : Option (Unit × aSt) := lt (aWI σ x0 0 ((aI σ x0 0) - x1)) fun σ1 => lt (aWI σ1 x0 1 ((aI σ1 x0 1) + (aI σ1 x2 3))) fun σ4 => lt (aWI σ4 x0 2 ((aI σ4 x0 2) + 1)) fun σ7 => cO (¬ ((aI σ7 x2 1) < 0 ∨ 6 ≤ (aI σ7 x2 1).toNatClampNeg)) (cO (¬ ((aI σ7 x2 1) < 0 ∨ 6 ≤ (aI σ7 x2 1).toNatClampNeg)) (lt (aWI σ7 (x0 + 1) (aI σ7 x2 1).toNatClampNeg ((aI σ7 (x0 + 1) (aI σ7 x2 1).toNatClampNeg) + (aI σ7 x2 3))) fun σ12 => lt (aWI σ12 x0 4 x3) fun σ15 => some ((), σ15)))
set_option maxRecDepth 20000 in
set_option maxHeartbeats 4000000 in
theorem T_X7_pay (xs : Nat → Int32) (L : Nat) (N : Nat) (x0 : Nat) (x1 : Int32) (x2 : Nat) (x3 : Int32) (σ : aSt) (q : Unit × aSt) (h : F_X7_pay N x0 x1 x2 x3 σ = some q) (hG : Gr σ) (hx0 : isPu x0) (hx2 : isLo x2) : Cal xs L 34 [.ref x0, .int x1, .ref x2, .int x3] σ (wV q.1) q.2 ∧ Gr q.2 := by
  have h : (lt (aWI σ x0 0 ((aI σ x0 0) - x1)) fun σ1 => lt (aWI σ1 x0 1 ((aI σ1 x0 1) + (aI σ1 x2 3))) fun σ4 => lt (aWI σ4 x0 2 ((aI σ4 x0 2) + 1)) fun σ7 => cO (¬ ((aI σ7 x2 1) < 0 ∨ 6 ≤ (aI σ7 x2 1).toNatClampNeg)) (cO (¬ ((aI σ7 x2 1) < 0 ∨ 6 ≤ (aI σ7 x2 1).toNatClampNeg)) (lt (aWI σ7 (x0 + 1) (aI σ7 x2 1).toNatClampNeg ((aI σ7 (x0 + 1) (aI σ7 x2 1).toNatClampNeg) + (aI σ7 x2 3))) fun σ12 => lt (aWI σ12 x0 4 x3) fun σ15 => some ((), σ15)))) = some q := h
  show Ev xs L 34 0 [.ref x0, .int x1, .ref x2, .int x3] [] σ (wV q.1) q.2 ∧ Gr q.2
  refine ev_a (fun he => ev_aload rfl rfl he) ?_
  refine ev_a (fun he => ev_dupR rfl he) ?_
  refine ev_a (fun he => ev_getI rfl (gr_ob (n := 5) hG (sh_Pu0 hx0)) he) ?_
  refine ev_a (fun he => ev_iload rfl rfl he) ?_
  refine ev_a (fun he => ev_bin (z := (aI σ x0 0) - x1) rfl rfl he) ?_
  obtain ⟨σ1, e2, h⟩ := lt_inv h
  have hG3 : Gr σ1 := gr_wi e2 hG
  refine ev_a (fun he => ev_putI rfl (gr_ob (n := 5) hG (sh_Pu0 hx0)) e2 he) ?_
  refine ev_a (fun he => ev_aload rfl rfl he) ?_
  refine ev_a (fun he => ev_dupR rfl he) ?_
  refine ev_a (fun he => ev_getI rfl (gr_ob (n := 5) hG3 (sh_Pu0 hx0)) he) ?_
  refine ev_a (fun he => ev_aload rfl rfl he) ?_
  refine ev_a (fun he => ev_getI rfl (gr_ob (n := 5) hG3 (sh_Lo0 hx2)) he) ?_
  refine ev_a (fun he => ev_bin (z := (aI σ1 x0 1) + (aI σ1 x2 3)) rfl rfl he) ?_
  obtain ⟨σ4, e5, h⟩ := lt_inv h
  have hG6 : Gr σ4 := gr_wi e5 hG3
  refine ev_a (fun he => ev_putI rfl (gr_ob (n := 5) hG3 (sh_Pu0 hx0)) e5 he) ?_
  refine ev_a (fun he => ev_aload rfl rfl he) ?_
  refine ev_a (fun he => ev_dupR rfl he) ?_
  refine ev_a (fun he => ev_getI rfl (gr_ob (n := 5) hG6 (sh_Pu0 hx0)) he) ?_
  refine ev_a (fun he => ev_push rfl he) ?_
  refine ev_a (fun he => ev_bin (z := (aI σ4 x0 2) + 1) rfl rfl he) ?_
  obtain ⟨σ7, e8, h⟩ := lt_inv h
  have hG9 : Gr σ7 := gr_wi e8 hG6
  refine ev_a (fun he => ev_putI rfl (gr_ob (n := 5) hG6 (sh_Pu0 hx0)) e8 he) ?_
  refine ev_a (fun he => ev_aload rfl rfl he) ?_
  refine ev_a (fun he => ev_getR rfl (gr_ob (n := 5) hG9 (sh_Pu0 hx0)) (gr_p hG9 (gf_Pu3 hx0)) he) ?_
  refine ev_a (fun he => ev_aload rfl rfl he) ?_
  refine ev_a (fun he => ev_getI rfl (gr_ob (n := 5) hG9 (sh_Lo0 hx2)) he) ?_
  refine ev_a (fun he => ev_dup2 rfl he) ?_
  obtain ⟨hc10, h⟩ := cO_inv h
  refine ev_a (fun he => ev_aldI (k := (aI σ7 x2 1).toNatClampNeg) rfl (gr_ar hG9 (sh_Pu1 hx0)) hc10 rfl he) ?_
  refine ev_a (fun he => ev_aload rfl rfl he) ?_
  refine ev_a (fun he => ev_getI rfl (gr_ob (n := 5) hG9 (sh_Lo0 hx2)) he) ?_
  refine ev_a (fun he => ev_bin (z := (aI σ7 (x0 + 1) (aI σ7 x2 1).toNatClampNeg) + (aI σ7 x2 3)) rfl rfl he) ?_
  obtain ⟨hc11, h⟩ := cO_inv h
  obtain ⟨σ12, e13, h⟩ := lt_inv h
  have hG14 : Gr σ12 := gr_wi e13 hG9
  refine ev_a (fun he => ev_astI (k := (aI σ7 x2 1).toNatClampNeg) rfl (gr_ar hG9 (sh_Pu1 hx0)) hc11 rfl rfl e13 he) ?_
  refine ev_a (fun he => ev_aload rfl rfl he) ?_
  refine ev_a (fun he => ev_iload rfl rfl he) ?_
  obtain ⟨σ15, e16, h⟩ := lt_inv h
  have hG17 : Gr σ15 := gr_wi e16 hG14
  refine ev_a (fun he => ev_putI rfl (gr_ob (n := 5) hG14 (sh_Pu0 hx0)) e16 he) ?_
  cases h
  exact ⟨ev_retV rfl, hG17⟩
def J_X8_putFourBytes_50 (N : Nat) (σ : aSt) : Option (Unit × aSt) := some ((), σ)
set_option maxRecDepth 20000 in
set_option maxHeartbeats 4000000 in
theorem TJ_X8_putFourBytes_50 (xs : Nat → Int32) (L : Nat) (N : Nat) (d0 : Value) (d1 : Value) (d2 : Value) (σ : aSt) (q : Unit × aSt) (h : J_X8_putFourBytes_50 N  σ = some q) (hG : Gr σ) : Ev xs L 36 50 [d0, d1, d2] [] σ (wV q.1) q.2 ∧ Gr q.2 := by
  have h : (some ((), σ)) = some q := h
  cases h
  exact ⟨ev_retV rfl, hG⟩
def H_X8_putFourBytes_3 (N : Nat) : Nat → Int32 → Int32 → aSt → Option (Unit × aSt)
  | 0, _, _, _ => none
  | n + 1, x1, x2, σ => if x2 < 0 then J_X8_putFourBytes_50 N σ else if 2000 ≤ (aI σ 1 0) then J_X8_putFourBytes_50 N σ else cO (¬ ((aI σ 1 0) < 0 ∨ 2000 ≤ (aI σ 1 0).toNatClampNeg)) (lt (aWI σ 9 (aI σ 1 0).toNatClampNeg (vp_nar .char (((((x1.toUInt32 >>> (x2.toUInt32 &&& Int32.toUInt32 31)).toInt32) &&& 255).toUInt32 % 65536).toInt32))) fun σ4 => lt (aWI σ4 1 0 ((aI σ4 1 0) + 1)) fun σ7 => (H_X8_putFourBytes_3 N n) x1 (x2 + (-8)) σ7)
set_option maxRecDepth 20000 in
set_option maxHeartbeats 4000000 in
theorem TH_X8_putFourBytes_3 (xs : Nat → Int32) (L : Nat) (N : Nat) : ∀ (n : Nat) (x1 : Int32) (x2 : Int32) (σ : aSt) (q : Unit × aSt), H_X8_putFourBytes_3 N n x1 x2 σ = some q → Gr σ → Ev xs L 36 3 [.ref 1, .int x1, .int x2] [] σ (wV q.1) q.2 ∧ Gr q.2 := by
  intro n
  induction n with
  | zero =>
    intro x1 x2 σ q h hG
    exact absurd (show (none : Option (Unit × aSt)) = some q from h) (by simp)
  | succ n ih =>
    intro x1 x2 σ q h hG
    have hk3 : ∀ (x1 : Int32) (x2 : Int32) (σ : aSt) (q : Unit × aSt), H_X8_putFourBytes_3 N n x1 x2 σ = some q → Gr σ → Ev xs L 36 3 [.ref 1, .int x1, .int x2] [] σ (wV q.1) q.2 ∧ Gr q.2 := ih
    have h : (if x2 < 0 then J_X8_putFourBytes_50 N σ else if 2000 ≤ (aI σ 1 0) then J_X8_putFourBytes_50 N σ else cO (¬ ((aI σ 1 0) < 0 ∨ 2000 ≤ (aI σ 1 0).toNatClampNeg)) (lt (aWI σ 9 (aI σ 1 0).toNatClampNeg (vp_nar .char (((((x1.toUInt32 >>> (x2.toUInt32 &&& Int32.toUInt32 31)).toInt32) &&& 255).toUInt32 % 65536).toInt32))) fun σ4 => lt (aWI σ4 1 0 ((aI σ4 1 0) + 1)) fun σ7 => (H_X8_putFourBytes_3 N n) x1 (x2 + (-8)) σ7)) = some q := h
    refine ev_a (fun he => ev_iload rfl rfl he) ?_
    refine ev_b (c := x2 < 0) (fun ht hf => ev_iflt rfl ht hf) (fun hc1 => ?_) (fun hc1 => ?_)
    · rw [if_pos hc1] at h
      exact TJ_X8_putFourBytes_50 xs L N (.ref 1) (.int x1) (.int x2) σ q h hG
    · rw [if_neg hc1] at h
      refine ev_a (fun he => ev_aload rfl rfl he) ?_
      refine ev_a (fun he => ev_getI rfl (gr_ob (n := 12) hG rfl) he) ?_
      refine ev_a (fun he => ev_push rfl he) ?_
      refine ev_b (c := 2000 ≤ (aI σ 1 0)) (fun ht hf => ev_cge rfl ht hf) (fun hc2 => ?_) (fun hc2 => ?_)
      · rw [if_pos hc2] at h
        exact TJ_X8_putFourBytes_50 xs L N (.ref 1) (.int x1) (.int x2) σ q h hG
      · rw [if_neg hc2] at h
        refine ev_a (fun he => ev_aload rfl rfl he) ?_
        refine ev_a (fun he => ev_getR rfl (gr_ob (n := 12) hG rfl) (gr_p (a := 1) (k := 3) (b := 9) hG rfl) he) ?_
        refine ev_a (fun he => ev_aload rfl rfl he) ?_
        refine ev_a (fun he => ev_getI rfl (gr_ob (n := 12) hG rfl) he) ?_
        refine ev_a (fun he => ev_iload rfl rfl he) ?_
        refine ev_a (fun he => ev_iload rfl rfl he) ?_
        refine ev_a (fun he => ev_bin (z := (x1.toUInt32 >>> (x2.toUInt32 &&& Int32.toUInt32 31)).toInt32) rfl rfl he) ?_
        refine ev_a (fun he => ev_push rfl he) ?_
        refine ev_a (fun he => ev_bin (z := ((x1.toUInt32 >>> (x2.toUInt32 &&& Int32.toUInt32 31)).toInt32) &&& 255) rfl rfl he) ?_
        refine ev_a (fun he => ev_un (z := ((((x1.toUInt32 >>> (x2.toUInt32 &&& Int32.toUInt32 31)).toInt32) &&& 255).toUInt32 % 65536).toInt32) rfl rfl he) ?_
        obtain ⟨hc3, h⟩ := cO_inv h
        obtain ⟨σ4, e5, h⟩ := lt_inv h
        have hG6 : Gr σ4 := gr_wi e5 hG
        refine ev_a (fun he => ev_astI (k := (aI σ 1 0).toNatClampNeg) rfl (gr_ar hG rfl) hc3 rfl rfl e5 he) ?_
        refine ev_a (fun he => ev_aload rfl rfl he) ?_
        refine ev_a (fun he => ev_dupR rfl he) ?_
        refine ev_a (fun he => ev_getI rfl (gr_ob (n := 12) hG6 rfl) he) ?_
        refine ev_a (fun he => ev_push rfl he) ?_
        refine ev_a (fun he => ev_bin (z := (aI σ4 1 0) + 1) rfl rfl he) ?_
        obtain ⟨σ7, e8, h⟩ := lt_inv h
        have hG9 : Gr σ7 := gr_wi e8 hG6
        refine ev_a (fun he => ev_putI rfl (gr_ob (n := 12) hG6 rfl) e8 he) ?_
        refine ev_a (fun he => ev_iinc (ls' := [.ref 1, .int x1, .int (x2 + (-8))]) rfl rfl rfl (Nat.le_of_ble_eq_true rfl) rfl he) ?_
        refine ev_a (fun he => ev_goto rfl he) ?_
        exact hk3 x1 (x2 + (-8)) σ7 q h hG9
def F_X8_putFourBytes (N : Nat) (x1 : Int32) (σ : aSt) : Option (Unit × aSt) := H_X8_putFourBytes_3 N N x1 24 σ
set_option maxRecDepth 20000 in
set_option maxHeartbeats 4000000 in
theorem T_X8_putFourBytes (xs : Nat → Int32) (L : Nat) (N : Nat) (x1 : Int32) (σ : aSt) (q : Unit × aSt) (h : F_X8_putFourBytes N x1 σ = some q) (hG : Gr σ) : Cal xs L 36 [.ref 1, .int x1] σ (wV q.1) q.2 ∧ Gr q.2 := by
  have h : (H_X8_putFourBytes_3 N N x1 24 σ) = some q := h
  show Ev xs L 36 0 [.ref 1, .int x1, aU] [] σ (wV q.1) q.2 ∧ Gr q.2
  refine ev_a (fun he => ev_push rfl he) ?_
  refine ev_a (fun he => ev_istore (ls' := [.ref 1, .int x1, .int 24]) rfl (Nat.le_of_ble_eq_true rfl) rfl he) ?_
  exact TH_X8_putFourBytes_3 xs L N N x1 24 σ q h hG
def F_X10_clearRules (N : Nat) (x0 : Nat) (σ : aSt) : Option (Unit × aSt) := lt (aWI σ x0 0 0) fun σ1 => lt (aWI σ1 x0 6 0) fun σ4 => some ((), σ4)
set_option maxRecDepth 20000 in
set_option maxHeartbeats 4000000 in
theorem T_X10_clearRules (xs : Nat → Int32) (L : Nat) (N : Nat) (x0 : Nat) (σ : aSt) (q : Unit × aSt) (h : F_X10_clearRules N x0 σ = some q) (hG : Gr σ) (hx0 : isTx x0) : Cal xs L 83 [.ref x0] σ (wV q.1) q.2 ∧ Gr q.2 := by
  have h : (lt (aWI σ x0 0 0) fun σ1 => lt (aWI σ1 x0 6 0) fun σ4 => some ((), σ4)) = some q := h
  show Ev xs L 83 0 [.ref x0] [] σ (wV q.1) q.2 ∧ Gr q.2
  refine ev_a (fun he => ev_aload rfl rfl he) ?_
  refine ev_a (fun he => ev_push rfl he) ?_
  obtain ⟨σ1, e2, h⟩ := lt_inv h
  have hG3 : Gr σ1 := gr_wi e2 hG
  refine ev_a (fun he => ev_putI rfl (gr_ob (n := 8) hG (sh_Tx0 hx0)) e2 he) ?_
  refine ev_a (fun he => ev_aload rfl rfl he) ?_
  refine ev_a (fun he => ev_push rfl he) ?_
  obtain ⟨σ4, e5, h⟩ := lt_inv h
  have hG6 : Gr σ4 := gr_wi e5 hG3
  refine ev_a (fun he => ev_putI rfl (gr_ob (n := 8) hG3 (sh_Tx0 hx0)) e5 he) ?_
  cases h
  exact ⟨ev_retV rfl, hG6⟩
def F_X8_begin (N : Nat) (σ : aSt) : Option (Unit × aSt) := oB (F_X10_clearRules N (aTxt σ 1 2) σ) fun y1 σ2 => lt (aWI σ2 1 4 0) fun σ6 => lt (aWI σ6 1 6 0) fun σ9 => lt (aWI σ9 1 7 0) fun σ12 => lt (aWI σ12 1 9 0) fun σ15 => lt (aWI σ15 1 11 0) fun σ18 => some ((), σ18)
set_option maxRecDepth 20000 in
set_option maxHeartbeats 4000000 in
theorem T_X8_begin (xs : Nat → Int32) (L : Nat) (N : Nat) (σ : aSt) (q : Unit × aSt) (h : F_X8_begin N σ = some q) (hG : Gr σ) : Cal xs L 38 [.ref 1] σ (wV q.1) q.2 ∧ Gr q.2 := by
  have h : (oB (F_X10_clearRules N (aTxt σ 1 2) σ) fun y1 σ2 => lt (aWI σ2 1 4 0) fun σ6 => lt (aWI σ6 1 6 0) fun σ9 => lt (aWI σ9 1 7 0) fun σ12 => lt (aWI σ12 1 9 0) fun σ15 => lt (aWI σ15 1 11 0) fun σ18 => some ((), σ18)) = some q := h
  show Ev xs L 38 0 [.ref 1] [] σ (wV q.1) q.2 ∧ Gr q.2
  refine ev_a (fun he => ev_aload rfl rfl he) ?_
  refine ev_a (fun he => ev_getR rfl (gr_ob (n := 12) hG rfl) (gr_tx (a := 1) (k := 2) hG (by decide)).1 he) ?_
  obtain ⟨y1, σ2, h3, h⟩ := oB_inv h
  obtain ⟨c4, hG5⟩ := T_X10_clearRules xs L N (aTxt σ 1 2) σ (y1, σ2) h3 hG (gr_tx (a := 1) (k := 2) hG (by decide)).2
  refine ev_a (fun he => ev_callV (as := []) rfl (gr_ob (n := 8) hG (sh_Tx0 (gr_tx (a := 1) (k := 2) hG (by decide)).2)) rfl rfl rfl (Nat.le_of_ble_eq_true rfl) (Nat.le_of_ble_eq_true rfl) c4 he) ?_
  refine ev_a (fun he => ev_aload rfl rfl he) ?_
  refine ev_a (fun he => ev_push rfl he) ?_
  obtain ⟨σ6, e7, h⟩ := lt_inv h
  have hG8 : Gr σ6 := gr_wi e7 hG5
  refine ev_a (fun he => ev_putI rfl (gr_ob (n := 12) hG5 rfl) e7 he) ?_
  refine ev_a (fun he => ev_aload rfl rfl he) ?_
  refine ev_a (fun he => ev_push rfl he) ?_
  obtain ⟨σ9, e10, h⟩ := lt_inv h
  have hG11 : Gr σ9 := gr_wi e10 hG8
  refine ev_a (fun he => ev_putI rfl (gr_ob (n := 12) hG8 rfl) e10 he) ?_
  refine ev_a (fun he => ev_aload rfl rfl he) ?_
  refine ev_a (fun he => ev_push rfl he) ?_
  obtain ⟨σ12, e13, h⟩ := lt_inv h
  have hG14 : Gr σ12 := gr_wi e13 hG11
  refine ev_a (fun he => ev_putI rfl (gr_ob (n := 12) hG11 rfl) e13 he) ?_
  refine ev_a (fun he => ev_aload rfl rfl he) ?_
  refine ev_a (fun he => ev_push rfl he) ?_
  obtain ⟨σ15, e16, h⟩ := lt_inv h
  have hG17 : Gr σ15 := gr_wi e16 hG14
  refine ev_a (fun he => ev_putI rfl (gr_ob (n := 12) hG14 rfl) e16 he) ?_
  refine ev_a (fun he => ev_aload rfl rfl he) ?_
  refine ev_a (fun he => ev_push rfl he) ?_
  obtain ⟨σ18, e19, h⟩ := lt_inv h
  have hG20 : Gr σ18 := gr_wi e19 hG17
  refine ev_a (fun he => ev_putI rfl (gr_ob (n := 12) hG17 rfl) e19 he) ?_
  cases h
  exact ⟨ev_retV rfl, hG20⟩
def J_X8_isBlank_29 (N : Nat) (s0 : Int32) (σ : aSt) : Option (Int32 × aSt) := cO (vp_nar .boolean s0 = s0) (some (s0, σ))
set_option maxRecDepth 20000 in
set_option maxHeartbeats 4000000 in
theorem TJ_X8_isBlank_29 (xs : Nat → Int32) (L : Nat) (N : Nat) (s0 : Int32) (d0 : Value) (σ : aSt) (q : Int32 × aSt) (h : J_X8_isBlank_29 N s0 σ = some q) (hG : Gr σ) : Ev xs L 55 29 [d0] [.int s0] σ (wI q.1) q.2 ∧ Gr q.2 := by
  have h : (cO (vp_nar .boolean s0 = s0) (some (s0, σ))) = some q := h
  obtain ⟨hc1, h⟩ := cO_inv h
  cases h
  exact ⟨ev_retZ rfl hc1, hG⟩
def J_X8_isBlank_24 (N : Nat) (σ : aSt) : Option (Int32 × aSt) := J_X8_isBlank_29 N 1 σ
set_option maxRecDepth 20000 in
set_option maxHeartbeats 4000000 in
theorem TJ_X8_isBlank_24 (xs : Nat → Int32) (L : Nat) (N : Nat) (d0 : Value) (σ : aSt) (q : Int32 × aSt) (h : J_X8_isBlank_24 N  σ = some q) (hG : Gr σ) : Ev xs L 55 24 [d0] [] σ (wI q.1) q.2 ∧ Gr q.2 := by
  have h : (J_X8_isBlank_29 N 1 σ) = some q := h
  refine ev_a (fun he => ev_push rfl he) ?_
  refine ev_a (fun he => ev_goto rfl he) ?_
  exact TJ_X8_isBlank_29 xs L N 1 (d0) σ q h hG
def F_X8_isBlank (N : Nat) (x0 : Int32) (σ : aSt) : Option (Int32 × aSt) := if x0 = 9 then J_X8_isBlank_24 N σ else if x0 = 10 then J_X8_isBlank_24 N σ else if x0 = 13 then J_X8_isBlank_24 N σ else if x0 ≠ 32 then J_X8_isBlank_29 N 0 σ else J_X8_isBlank_24 N σ
set_option maxRecDepth 20000 in
set_option maxHeartbeats 4000000 in
theorem T_X8_isBlank (xs : Nat → Int32) (L : Nat) (N : Nat) (x0 : Int32) (σ : aSt) (q : Int32 × aSt) (h : F_X8_isBlank N x0 σ = some q) (hG : Gr σ) : Cal xs L 55 [.int x0] σ (wI q.1) q.2 ∧ Gr q.2 := by
  have h : (if x0 = 9 then J_X8_isBlank_24 N σ else if x0 = 10 then J_X8_isBlank_24 N σ else if x0 = 13 then J_X8_isBlank_24 N σ else if x0 ≠ 32 then J_X8_isBlank_29 N 0 σ else J_X8_isBlank_24 N σ) = some q := h
  show Ev xs L 55 0 [.int x0] [] σ (wI q.1) q.2 ∧ Gr q.2
  refine ev_a (fun he => ev_iload rfl rfl he) ?_
  refine ev_a (fun he => ev_push rfl he) ?_
  refine ev_b (c := x0 = 9) (fun ht hf => ev_ceq rfl ht hf) (fun hc2 => ?_) (fun hc2 => ?_)
  · rw [if_pos hc2] at h
    exact TJ_X8_isBlank_24 xs L N (.int x0) σ q h hG
  · rw [if_neg hc2] at h
    refine ev_a (fun he => ev_iload rfl rfl he) ?_
    refine ev_a (fun he => ev_push rfl he) ?_
    refine ev_b (c := x0 = 10) (fun ht hf => ev_ceq rfl ht hf) (fun hc3 => ?_) (fun hc3 => ?_)
    · rw [if_pos hc3] at h
      exact TJ_X8_isBlank_24 xs L N (.int x0) σ q h hG
    · rw [if_neg hc3] at h
      refine ev_a (fun he => ev_iload rfl rfl he) ?_
      refine ev_a (fun he => ev_push rfl he) ?_
      refine ev_b (c := x0 = 13) (fun ht hf => ev_ceq rfl ht hf) (fun hc4 => ?_) (fun hc4 => ?_)
      · rw [if_pos hc4] at h
        exact TJ_X8_isBlank_24 xs L N (.int x0) σ q h hG
      · rw [if_neg hc4] at h
        refine ev_a (fun he => ev_iload rfl rfl he) ?_
        refine ev_a (fun he => ev_push rfl he) ?_
        refine ev_b (c := x0 ≠ 32) (fun ht hf => ev_cne rfl ht hf) (fun hc5 => ?_) (fun hc5 => ?_)
        · rw [if_pos hc5] at h
          refine ev_a (fun he => ev_push rfl he) ?_
          exact TJ_X8_isBlank_29 xs L N 0 (.int x0) σ q h hG
        · rw [if_neg hc5] at h
          exact TJ_X8_isBlank_24 xs L N (.int x0) σ q h hG
def J_X8_isLetter_17 (N : Nat) (s0 : Int32) (σ : aSt) : Option (Int32 × aSt) := cO (vp_nar .boolean s0 = s0) (some (s0, σ))
set_option maxRecDepth 20000 in
set_option maxHeartbeats 4000000 in
theorem TJ_X8_isLetter_17 (xs : Nat → Int32) (L : Nat) (N : Nat) (s0 : Int32) (d0 : Value) (σ : aSt) (q : Int32 × aSt) (h : J_X8_isLetter_17 N s0 σ = some q) (hG : Gr σ) : Ev xs L 56 17 [d0] [.int s0] σ (wI q.1) q.2 ∧ Gr q.2 := by
  have h : (cO (vp_nar .boolean s0 = s0) (some (s0, σ))) = some q := h
  obtain ⟨hc1, h⟩ := cO_inv h
  cases h
  exact ⟨ev_retZ rfl hc1, hG⟩
def J_X8_isLetter_16 (N : Nat) (σ : aSt) : Option (Int32 × aSt) := J_X8_isLetter_17 N 0 σ
set_option maxRecDepth 20000 in
set_option maxHeartbeats 4000000 in
theorem TJ_X8_isLetter_16 (xs : Nat → Int32) (L : Nat) (N : Nat) (d0 : Value) (σ : aSt) (q : Int32 × aSt) (h : J_X8_isLetter_16 N  σ = some q) (hG : Gr σ) : Ev xs L 56 16 [d0] [] σ (wI q.1) q.2 ∧ Gr q.2 := by
  have h : (J_X8_isLetter_17 N 0 σ) = some q := h
  refine ev_a (fun he => ev_push rfl he) ?_
  exact TJ_X8_isLetter_17 xs L N 0 (d0) σ q h hG
def F_X8_isLetter (N : Nat) (x0 : Int32) (σ : aSt) : Option (Int32 × aSt) := if x0 < 97 then J_X8_isLetter_16 N σ else if 122 < x0 then J_X8_isLetter_16 N σ else J_X8_isLetter_17 N 1 σ
set_option maxRecDepth 20000 in
set_option maxHeartbeats 4000000 in
theorem T_X8_isLetter (xs : Nat → Int32) (L : Nat) (N : Nat) (x0 : Int32) (σ : aSt) (q : Int32 × aSt) (h : F_X8_isLetter N x0 σ = some q) (hG : Gr σ) : Cal xs L 56 [.int x0] σ (wI q.1) q.2 ∧ Gr q.2 := by
  have h : (if x0 < 97 then J_X8_isLetter_16 N σ else if 122 < x0 then J_X8_isLetter_16 N σ else J_X8_isLetter_17 N 1 σ) = some q := h
  show Ev xs L 56 0 [.int x0] [] σ (wI q.1) q.2 ∧ Gr q.2
  refine ev_a (fun he => ev_iload rfl rfl he) ?_
  refine ev_a (fun he => ev_push rfl he) ?_
  refine ev_b (c := x0 < 97) (fun ht hf => ev_clt rfl ht hf) (fun hc2 => ?_) (fun hc2 => ?_)
  · rw [if_pos hc2] at h
    exact TJ_X8_isLetter_16 xs L N (.int x0) σ q h hG
  · rw [if_neg hc2] at h
    refine ev_a (fun he => ev_iload rfl rfl he) ?_
    refine ev_a (fun he => ev_push rfl he) ?_
    refine ev_b (c := 122 < x0) (fun ht hf => ev_cgt rfl ht hf) (fun hc3 => ?_) (fun hc3 => ?_)
    · rw [if_pos hc3] at h
      exact TJ_X8_isLetter_16 xs L N (.int x0) σ q h hG
    · rw [if_neg hc3] at h
      refine ev_a (fun he => ev_push rfl he) ?_
      refine ev_a (fun he => ev_goto rfl he) ?_
      exact TJ_X8_isLetter_17 xs L N 1 (.int x0) σ q h hG
def J_J0_coder_7d493_14 (N : Nat) (s0 : Int32) (σ : aSt) : Option (Int32 × aSt) := cO (vp_nar .byte s0 = s0) (some (s0, σ))
set_option maxRecDepth 20000 in
set_option maxHeartbeats 4000000 in
theorem TJ_J0_coder_7d493_14 (xs : Nat → Int32) (L : Nat) (N : Nat) (s0 : Int32) (d0 : Value) (σ : aSt) (q : Int32 × aSt) (h : J_J0_coder_7d493_14 N s0 σ = some q) (hG : Gr σ) : Ev xs L 179 14 [d0] [.int s0] σ (wI q.1) q.2 ∧ Gr q.2 := by
  have h : (cO (vp_nar .byte s0 = s0) (some (s0, σ))) = some q := h
  obtain ⟨hc1, h⟩ := cO_inv h
  cases h
  exact ⟨ev_retZ rfl hc1, hG⟩
def F_J0_coder_7d493 (N : Nat) (σ : aSt) : Option (Int32 × aSt) := J_J0_coder_7d493_14 N 0 σ
set_option maxRecDepth 20000 in
set_option maxHeartbeats 4000000 in
theorem T_J0_coder_7d493 (xs : Nat → Int32) (L : Nat) (N : Nat) (σ : aSt) (q : Int32 × aSt) (h : F_J0_coder_7d493 N σ = some q) (hG : Gr σ) : Cal xs L 179 [.float 1] σ (wI q.1) q.2 ∧ Gr q.2 := by
  have h : (J_J0_coder_7d493_14 N 0 σ) = some q := h
  show Ev xs L 179 0 [.float 1] [] σ (wI q.1) q.2 ∧ Gr q.2
  refine ev_a (fun he => ev_push rfl he) ?_
  refine ev_a (fun he => ev_ifeq rfl (fun hc => absurd hc (by decide)) (fun _ => he)) ?_
  refine ev_a (fun he => ev_aloadF rfl rfl he) ?_
  refine ev_a (fun he => ev_tcod rfl he) ?_
  refine ev_a (fun he => ev_goto rfl he) ?_
  exact TJ_J0_coder_7d493_14 xs L N 0 (.float 1) σ q h hG
def F_J0_length_8abf5 (N : Nat) (σ : aSt) : Option (Int32 × aSt) := oB (F_J0_coder_7d493 N σ) fun y1 σ2 => some ((Int32.ofNat 128) >>> (y1 &&& 31), σ2)
set_option maxRecDepth 20000 in
set_option maxHeartbeats 4000000 in
theorem T_J0_length_8abf5 (xs : Nat → Int32) (L : Nat) (N : Nat) (σ : aSt) (q : Int32 × aSt) (h : F_J0_length_8abf5 N σ = some q) (hG : Gr σ) : Cal xs L 177 [.float 1] σ (wI q.1) q.2 ∧ Gr q.2 := by
  have h : (oB (F_J0_coder_7d493 N σ) fun y1 σ2 => some ((Int32.ofNat 128) >>> (y1 &&& 31), σ2)) = some q := h
  show Ev xs L 177 0 [.float 1] [] σ (wI q.1) q.2 ∧ Gr q.2
  refine ev_a (fun he => ev_aloadF rfl rfl he) ?_
  refine ev_a (fun he => ev_tval rfl he) ?_
  refine ev_a (fun he => ev_tlen rfl he) ?_
  refine ev_a (fun he => ev_aloadF rfl rfl he) ?_
  obtain ⟨y1, σ2, h3, h⟩ := oB_inv h
  obtain ⟨c4, hG5⟩ := T_J0_coder_7d493 xs L N σ (y1, σ2) h3 hG
  refine ev_a (fun he => ev_callF (as := []) rfl rfl rfl rfl (Nat.le_of_ble_eq_true rfl) (Nat.le_of_ble_eq_true rfl) c4 he) ?_
  refine ev_a (fun he => ev_bin (z := (Int32.ofNat 128) >>> (y1 &&& 31)) rfl rfl he) ?_
  cases h
  exact ⟨ev_retI rfl, hG5⟩
