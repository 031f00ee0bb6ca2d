def J_X9_whoStops_78 (N : Nat) (k4 : Nat → Nat → Int32 → Int32 → aSt → Option (Int32 × aSt)) (x0 : Nat) (x1 : Nat) (x2 : Int32) (x3 : Int32) (σ : aSt) : Option (Int32 × aSt) := k4 x0 x1 x2 (x3 + 1) σ
set_option maxRecDepth 20000 in
set_option maxHeartbeats 4000000 in
theorem TJ_X9_whoStops_78 (xs : Nat → Int32) (L : Nat) (N : Nat) (k4 : Nat → Nat → Int32 → Int32 → aSt → Option (Int32 × aSt)) (hk4 : ∀ (x0 : Nat) (x1 : Nat) (x2 : Int32) (x3 : Int32) (d4 : Value) (σ : aSt) (q : Int32 × aSt), k4 x0 x1 x2 x3 σ = some q → Gr σ → isSale x0 → isCk x1 → Ev xs L 66 4 [.ref x0, .ref x1, .int x2, .int x3, d4] [] σ (wI q.1) q.2 ∧ Gr q.2) (x0 : Nat) (x1 : Nat) (x2 : Int32) (x3 : Int32) (d4 : Value) (σ : aSt) (q : Int32 × aSt) (h : J_X9_whoStops_78 N k4 x0 x1 x2 x3 σ = some q) (hG : Gr σ) (hx0 : isSale x0) (hx1 : isCk x1) : Ev xs L 66 78 [.ref x0, .ref x1, .int x2, .int x3, d4] [] σ (wI q.1) q.2 ∧ Gr q.2 := by
  have h : (k4 x0 x1 x2 (x3 + 1) σ) = some q := h
  refine ev_a (fun he => ev_iinc (ls' := [.ref x0, .ref x1, .int x2, .int (x3 + 1), d4]) rfl rfl rfl (Nat.le_of_ble_eq_true rfl) rfl he) ?_
  refine ev_a (fun he => ev_goto rfl he) ?_
  exact hk4 x0 x1 x2 (x3 + 1) (d4) σ q h hG hx0 hx1
def J_X9_whoStops_76 (N : Nat) (k4 : Nat → Nat → Int32 → Int32 → aSt → Option (Int32 × aSt)) (x0 : Nat) (x1 : Nat) (x3 : Int32) (σ : aSt) : Option (Int32 × aSt) := J_X9_whoStops_78 N k4 x0 x1 x3 x3 σ
set_option maxRecDepth 20000 in
set_option maxHeartbeats 4000000 in
theorem TJ_X9_whoStops_76 (xs : Nat → Int32) (L : Nat) (N : Nat) (k4 : Nat → Nat → Int32 → Int32 → aSt → Option (Int32 × aSt)) (hk4 : ∀ (x0 : Nat) (x1 : Nat) (x2 : Int32) (x3 : Int32) (d4 : Value) (σ : aSt) (q : Int32 × aSt), k4 x0 x1 x2 x3 σ = some q → Gr σ → isSale x0 → isCk x1 → Ev xs L 66 4 [.ref x0, .ref x1, .int x2, .int x3, d4] [] σ (wI q.1) q.2 ∧ Gr q.2) (x0 : Nat) (x1 : Nat) (x3 : Int32) (d2 : Value) (d4 : Value) (σ : aSt) (q : Int32 × aSt) (h : J_X9_whoStops_76 N k4 x0 x1 x3 σ = some q) (hG : Gr σ) (hx0 : isSale x0) (hx1 : isCk x1) : Ev xs L 66 76 [.ref x0, .ref x1, d2, .int x3, d4] [] σ (wI q.1) q.2 ∧ Gr q.2 := by
  have h : (J_X9_whoStops_78 N k4 x0 x1 x3 x3 σ) = some q := h
  refine ev_a (fun he => ev_iload rfl rfl he) ?_
  refine ev_a (fun he => ev_istore (ls' := [.ref x0, .ref x1, .int x3, .int x3, d4]) rfl (Nat.le_of_ble_eq_true rfl) rfl he) ?_
  exact TJ_X9_whoStops_78 xs L N k4 hk4 x0 x1 x3 x3 (d4) σ q h hG hx0 hx1
def J_X9_whoStops_49 (N : Nat) (k4 : Nat → Nat → Int32 → Int32 → aSt → Option (Int32 × aSt)) (x0 : Nat) (x1 : Nat) (x2 : Int32) (x3 : Int32) (s0 : Int32) (σ : aSt) : Option (Int32 × aSt) := if s0 = 0 then J_X9_whoStops_78 N k4 x0 x1 x2 x3 σ else if x2 = ((-1)) then J_X9_whoStops_76 N k4 x0 x1 x3 σ else cO (¬ (x3 < 0 ∨ 6 ≤ x3.toNatClampNeg)) (cO (¬ (x2 < 0 ∨ 6 ≤ x2.toNatClampNeg)) (if (aI σ (x1 + 1) x3.toNatClampNeg) ≤ (aI σ (x1 + 1) x2.toNatClampNeg) then J_X9_whoStops_78 N k4 x0 x1 x2 x3 σ else J_X9_whoStops_76 N k4 x0 x1 x3 σ))
set_option maxRecDepth 20000 in
set_option maxHeartbeats 4000000 in
theorem TJ_X9_whoStops_49 (xs : Nat → Int32) (L : Nat) (N : Nat) (k4 : Nat → Nat → Int32 → Int32 → aSt → Option (Int32 × aSt)) (hk4 : ∀ (x0 : Nat) (x1 : Nat) (x2 : Int32) (x3 : Int32) (d4 : Value) (σ : aSt) (q : Int32 × aSt), k4 x0 x1 x2 x3 σ = some q → Gr σ → isSale x0 → isCk x1 → Ev xs L 66 4 [.ref x0, .ref x1, .int x2, .int x3, d4] [] σ (wI q.1) q.2 ∧ Gr q.2) (x0 : Nat) (x1 : Nat) (x2 : Int32) (x3 : Int32) (s0 : Int32) (d4 : Value) (σ : aSt) (q : Int32 × aSt) (h : J_X9_whoStops_49 N k4 x0 x1 x2 x3 s0 σ = some q) (hG : Gr σ) (hx0 : isSale x0) (hx1 : isCk x1) : Ev xs L 66 49 [.ref x0, .ref x1, .int x2, .int x3, d4] [.int s0] σ (wI q.1) q.2 ∧ Gr q.2 := by
  have h : (if s0 = 0 then J_X9_whoStops_78 N k4 x0 x1 x2 x3 σ else if x2 = ((-1)) then J_X9_whoStops_76 N k4 x0 x1 x3 σ else cO (¬ (x3 < 0 ∨ 6 ≤ x3.toNatClampNeg)) (cO (¬ (x2 < 0 ∨ 6 ≤ x2.toNatClampNeg)) (if (aI σ (x1 + 1) x3.toNatClampNeg) ≤ (aI σ (x1 + 1) x2.toNatClampNeg) then J_X9_whoStops_78 N k4 x0 x1 x2 x3 σ else J_X9_whoStops_76 N k4 x0 x1 x3 σ))) = some q := h
  refine ev_a (fun he => ev_istore (ls' := [.ref x0, .ref x1, .int x2, .int x3, .int s0]) rfl (Nat.le_of_ble_eq_true rfl) rfl he) ?_
  refine ev_a (fun he => ev_iload rfl rfl he) ?_
  refine ev_b (c := s0 = 0) (fun ht hf => ev_ifeq rfl ht hf) (fun hc1 => ?_) (fun hc1 => ?_)
  · rw [if_pos hc1] at h
    exact TJ_X9_whoStops_78 xs L N k4 hk4 x0 x1 x2 x3 (.int s0) σ q h hG hx0 hx1
  · rw [if_neg hc1] at h
    refine ev_a (fun he => ev_iload rfl rfl he) ?_
    refine ev_a (fun he => ev_push rfl he) ?_
    refine ev_b (c := x2 = ((-1))) (fun ht hf => ev_ceq rfl ht hf) (fun hc2 => ?_) (fun hc2 => ?_)
    · rw [if_pos hc2] at h
      exact TJ_X9_whoStops_76 xs L N k4 hk4 x0 x1 x3 (.int x2) (.int s0) σ q h hG hx0 hx1
    · rw [if_neg hc2] at h
      refine ev_a (fun he => ev_aload rfl rfl he) ?_
      refine ev_a (fun he => ev_getR rfl (gr_ob (n := 5) hG (sh_Ck0 hx1)) (gr_p hG (gf_Ck4 hx1)) he) ?_
      refine ev_a (fun he => ev_iload rfl rfl he) ?_
      obtain ⟨hc3, h⟩ := cO_inv h
      refine ev_a (fun he => ev_aldI (k := x3.toNatClampNeg) rfl (gr_ar hG (sh_Ck1 hx1)) hc3 rfl he) ?_
      refine ev_a (fun he => ev_aload rfl rfl he) ?_
      refine ev_a (fun he => ev_getR rfl (gr_ob (n := 5) hG (sh_Ck0 hx1)) (gr_p hG (gf_Ck4 hx1)) he) ?_
      refine ev_a (fun he => ev_iload rfl rfl he) ?_
      obtain ⟨hc4, h⟩ := cO_inv h
      refine ev_a (fun he => ev_aldI (k := x2.toNatClampNeg) rfl (gr_ar hG (sh_Ck1 hx1)) hc4 rfl he) ?_
      refine ev_b (c := (aI σ (x1 + 1) x3.toNatClampNeg) ≤ (aI σ (x1 + 1) x2.toNatClampNeg)) (fun ht hf => ev_cle rfl ht hf) (fun hc5 => ?_) (fun hc5 => ?_)
      · rw [if_pos hc5] at h
        exact TJ_X9_whoStops_78 xs L N k4 hk4 x0 x1 x2 x3 (.int s0) σ q h hG hx0 hx1
      · rw [if_neg hc5] at h
        exact TJ_X9_whoStops_76 xs L N k4 hk4 x0 x1 x3 (.int x2) (.int s0) σ q h hG hx0 hx1
def J_X9_whoStops_48 (N : Nat) (k4 : Nat → Nat → Int32 → Int32 → aSt → Option (Int32 × aSt)) (x0 : Nat) (x1 : Nat) (x2 : Int32) (x3 : Int32) (σ : aSt) : Option (Int32 × aSt) := J_X9_whoStops_49 N k4 x0 x1 x2 x3 0 σ
set_option maxRecDepth 20000 in
set_option maxHeartbeats 4000000 in
theorem TJ_X9_whoStops_48 (xs : Nat → Int32) (L : Nat) (N : Nat) (k4 : Nat → Nat → Int32 → Int32 → aSt → Option (Int32 × aSt)) (hk4 : ∀ (x0 : Nat) (x1 : Nat) (x2 : Int32) (x3 : Int32) (d4 : Value) (σ : aSt) (q : Int32 × aSt), k4 x0 x1 x2 x3 σ = some q → Gr σ → isSale x0 → isCk x1 → Ev xs L 66 4 [.ref x0, .ref x1, .int x2, .int x3, d4] [] σ (wI q.1) q.2 ∧ Gr q.2) (x0 : Nat) (x1 : Nat) (x2 : Int32) (x3 : Int32) (d4 : Value) (σ : aSt) (q : Int32 × aSt) (h : J_X9_whoStops_48 N k4 x0 x1 x2 x3 σ = some q) (hG : Gr σ) (hx0 : isSale x0) (hx1 : isCk x1) : Ev xs L 66 48 [.ref x0, .ref x1, .int x2, .int x3, d4] [] σ (wI q.1) q.2 ∧ Gr q.2 := by
  have h : (J_X9_whoStops_49 N k4 x0 x1 x2 x3 0 σ) = some q := h
  refine ev_a (fun he => ev_push rfl he) ?_
  exact TJ_X9_whoStops_49 xs L N k4 hk4 x0 x1 x2 x3 0 (d4) σ q h hG hx0 hx1
def H_X9_whoStops_4 (N : Nat) : Nat → Nat → Nat → Int32 → Int32 → aSt → Option (Int32 × aSt)
  | 0, _, _, _, _, _ => none
  | n + 1, x0, x1, x2, x3, σ => if (aI σ 11 3) ≤ x3 then some (x2, σ) else cO (¬ (x3 < 0 ∨ 6 ≤ x3.toNatClampNeg)) (if (aI σ (x0 + 28 + 2 * x3.toNatClampNeg) 4) = (aI σ x0 6) then J_X9_whoStops_48 N (H_X9_whoStops_4 N n) x0 x1 x2 x3 σ else cO (¬ (x3 < 0 ∨ 6 ≤ x3.toNatClampNeg)) (if (aI σ (x1 + 1) x3.toNatClampNeg) < (aI σ x1 1) then J_X9_whoStops_48 N (H_X9_whoStops_4 N n) x0 x1 x2 x3 σ else J_X9_whoStops_49 N (H_X9_whoStops_4 N n) x0 x1 x2 x3 1 σ))
set_option maxRecDepth 20000 in
set_option maxHeartbeats 4000000 in
theorem TH_X9_whoStops_4 (xs : Nat → Int32) (L : Nat) (N : Nat) : ∀ (n : Nat) (x0 : Nat) (x1 : Nat) (x2 : Int32) (x3 : Int32) (d4 : Value) (σ : aSt) (q : Int32 × aSt), H_X9_whoStops_4 N n x0 x1 x2 x3 σ = some q → Gr σ → isSale x0 → isCk x1 → Ev xs L 66 4 [.ref x0, .ref x1, .int x2, .int x3, d4] [] σ (wI q.1) q.2 ∧ Gr q.2 := by
  intro n
  induction n with
  | zero =>
    intro x0 x1 x2 x3 d4 σ q h hG hx0 hx1
    exact absurd (show (none : Option (Int32 × aSt)) = some q from h) (by simp)
  | succ n ih =>
    intro x0 x1 x2 x3 d4 σ q h hG hx0 hx1
    have hk4 : ∀ (x0 : Nat) (x1 : Nat) (x2 : Int32) (x3 : Int32) (d4 : Value) (σ : aSt) (q : Int32 × aSt), H_X9_whoStops_4 N n x0 x1 x2 x3 σ = some q → Gr σ → isSale x0 → isCk x1 → Ev xs L 66 4 [.ref x0, .ref x1, .int x2, .int x3, d4] [] σ (wI q.1) q.2 ∧ Gr q.2 := ih
    have h : (if (aI σ 11 3) ≤ x3 then some (x2, σ) else cO (¬ (x3 < 0 ∨ 6 ≤ x3.toNatClampNeg)) (if (aI σ (x0 + 28 + 2 * x3.toNatClampNeg) 4) = (aI σ x0 6) then J_X9_whoStops_48 N (H_X9_whoStops_4 N n) x0 x1 x2 x3 σ else cO (¬ (x3 < 0 ∨ 6 ≤ x3.toNatClampNeg)) (if (aI σ (x1 + 1) x3.toNatClampNeg) < (aI σ x1 1) then J_X9_whoStops_48 N (H_X9_whoStops_4 N n) x0 x1 x2 x3 σ else J_X9_whoStops_49 N (H_X9_whoStops_4 N n) x0 x1 x2 x3 1 σ))) = some q := h
    refine ev_a (fun he => ev_iload rfl rfl he) ?_
    refine ev_a (fun he => ev_aload rfl rfl he) ?_
    refine ev_a (fun he => ev_getR rfl (gr_ob (n := 9) hG (sh_Sale0 hx0)) (gr_p hG (gf_Sale0 hx0)) he) ?_
    refine ev_a (fun he => ev_getI rfl (gr_ob (n := 7) hG rfl) he) ?_
    refine ev_b (c := (aI σ 11 3) ≤ x3) (fun ht hf => ev_cge rfl ht hf) (fun hc6 => ?_) (fun hc6 => ?_)
    · rw [if_pos hc6] at h
      refine ev_a (fun he => ev_iload rfl rfl he) ?_
      cases h
      exact ⟨ev_retI rfl, hG⟩
    · rw [if_neg hc6] at h
      refine ev_a (fun he => ev_aload rfl rfl he) ?_
      refine ev_a (fun he => ev_getR rfl (gr_ob (n := 9) hG (sh_Sale0 hx0)) (gr_p hG (gf_Sale2 hx0)) he) ?_
      refine ev_a (fun he => ev_iload rfl rfl he) ?_
      obtain ⟨hc7, h⟩ := cO_inv h
      refine ev_a (fun he => ev_aldR rfl (gr_ar hG (sh_Sale2 hx0)) (by decide) hc7 (gr_p hG (el_Pu hx0 hc7).1) he) ?_
      refine ev_a (fun he => ev_getI rfl (gr_ob (n := 5) hG (sh_Pu0 (el_Pu hx0 hc7).2)) he) ?_
      refine ev_a (fun he => ev_aload rfl rfl he) ?_
      refine ev_a (fun he => ev_getI rfl (gr_ob (n := 9) hG (sh_Sale0 hx0)) he) ?_
      refine ev_b (c := (aI σ (x0 + 28 + 2 * x3.toNatClampNeg) 4) = (aI σ x0 6)) (fun ht hf => ev_ceq rfl ht hf) (fun hc8 => ?_) (fun hc8 => ?_)
      · rw [if_pos hc8] at h
        exact TJ_X9_whoStops_48 xs L N (H_X9_whoStops_4 N n) hk4 x0 x1 x2 x3 (d4) σ q h hG hx0 hx1
      · rw [if_neg hc8] at h
        refine ev_a (fun he => ev_aload rfl rfl he) ?_
        refine ev_a (fun he => ev_getR rfl (gr_ob (n := 5) hG (sh_Ck0 hx1)) (gr_p hG (gf_Ck4 hx1)) he) ?_
        refine ev_a (fun he => ev_iload rfl rfl he) ?_
        obtain ⟨hc9, h⟩ := cO_inv h
        refine ev_a (fun he => ev_aldI (k := x3.toNatClampNeg) rfl (gr_ar hG (sh_Ck1 hx1)) hc9 rfl he) ?_
        refine ev_a (fun he => ev_aload rfl rfl he) ?_
        refine ev_a (fun he => ev_getI rfl (gr_ob (n := 5) hG (sh_Ck0 hx1)) he) ?_
        refine ev_b (c := (aI σ (x1 + 1) x3.toNatClampNeg) < (aI σ x1 1)) (fun ht hf => ev_clt rfl ht hf) (fun hc10 => ?_) (fun hc10 => ?_)
        · rw [if_pos hc10] at h
          exact TJ_X9_whoStops_48 xs L N (H_X9_whoStops_4 N n) hk4 x0 x1 x2 x3 (d4) σ q h hG hx0 hx1
        · rw [if_neg hc10] at h
          refine ev_a (fun he => ev_push rfl he) ?_
          refine ev_a (fun he => ev_goto rfl he) ?_
          exact TJ_X9_whoStops_49 xs L N (H_X9_whoStops_4 N n) hk4 x0 x1 x2 x3 1 (d4) σ q h hG hx0 hx1
def F_X9_whoStops (N : Nat) (x0 : Nat) (x1 : Nat) (σ : aSt) : Option (Int32 × aSt) := H_X9_whoStops_4 N N x0 x1 ((-1)) 0 σ
set_option maxRecDepth 20000 in
set_option maxHeartbeats 4000000 in
theorem T_X9_whoStops (xs : Nat → Int32) (L : Nat) (N : Nat) (x0 : Nat) (x1 : Nat) (σ : aSt) (q : Int32 × aSt) (h : F_X9_whoStops N x0 x1 σ = some q) (hG : Gr σ) (hx0 : isSale x0) (hx1 : isCk x1) : Cal xs L 66 [.ref x0, .ref x1] σ (wI q.1) q.2 ∧ Gr q.2 := by
  have h : (H_X9_whoStops_4 N N x0 x1 ((-1)) 0 σ) = some q := h
  show Ev xs L 66 0 [.ref x0, .ref x1, aU, aU, aU] [] σ (wI q.1) q.2 ∧ Gr q.2
  refine ev_a (fun he => ev_push rfl he) ?_
  refine ev_a (fun he => ev_istore (ls' := [.ref x0, .ref x1, .int ((-1)), aU, aU]) rfl (Nat.le_of_ble_eq_true rfl) rfl he) ?_
  refine ev_a (fun he => ev_push rfl he) ?_
  refine ev_a (fun he => ev_istore (ls' := [.ref x0, .ref x1, .int ((-1)), .int 0, aU]) rfl (Nat.le_of_ble_eq_true rfl) rfl he) ?_
  exact TH_X9_whoStops_4 xs L N N x0 x1 ((-1)) 0 (aU) σ q h hG hx0 hx1
def F_X9_sell (N : Nat) (x0 : Nat) (x1 : Nat) (x2 : Int32) (σ : aSt) : Option (Unit × aSt) := cO (¬ ((aI σ x1 0) < 0 ∨ 24 ≤ (aI σ x1 0).toNatClampNeg)) (cO (¬ ((aI σ x1 0) < 0 ∨ 24 ≤ (aI σ x1 0).toNatClampNeg)) (lt (aWI σ (x0 + 4 + (aI σ x1 0).toNatClampNeg) 0 x2) fun σ3 => lt (aWI σ3 (x0 + 4 + (aI σ x1 0).toNatClampNeg) 6 (((aI σ x1 1) * (aI σ (23 + (aI σ x1 0).toNatClampNeg) 3)) - ((((aI σ x1 1) * (aI σ (23 + (aI σ x1 0).toNatClampNeg) 3)) * 3) / 100))) fun σ7 => cO (¬ (x2 < 0 ∨ 6 ≤ x2.toNatClampNeg)) (oB (F_X7_pay N (x0 + 28 + 2 * x2.toNatClampNeg) ((aI σ x1 1) * (aI σ (23 + (aI σ x1 0).toNatClampNeg) 3)) (23 + (aI σ x1 0).toNatClampNeg) (aI σ7 x0 6) σ7) fun y11 σ12 => some ((), σ12))))
set_option maxRecDepth 20000 in
set_option maxHeartbeats 4000000 in
theorem T_X9_sell (xs : Nat → Int32) (L : Nat) (N : Nat) (x0 : Nat) (x1 : Nat) (x2 : Int32) (σ : aSt) (q : Unit × aSt) (h : F_X9_sell N x0 x1 x2 σ = some q) (hG : Gr σ) (hx0 : isSale x0) (hx1 : isCk x1) : Cal xs L 67 [.ref x0, .ref x1, .int x2] σ (wV q.1) q.2 ∧ Gr q.2 := by
  have h : (cO (¬ ((aI σ x1 0) < 0 ∨ 24 ≤ (aI σ x1 0).toNatClampNeg)) (cO (¬ ((aI σ x1 0) < 0 ∨ 24 ≤ (aI σ x1 0).toNatClampNeg)) (lt (aWI σ (x0 + 4 + (aI σ x1 0).toNatClampNeg) 0 x2) fun σ3 => lt (aWI σ3 (x0 + 4 + (aI σ x1 0).toNatClampNeg) 6 (((aI σ x1 1) * (aI σ (23 + (aI σ x1 0).toNatClampNeg) 3)) - ((((aI σ x1 1) * (aI σ (23 + (aI σ x1 0).toNatClampNeg) 3)) * 3) / 100))) fun σ7 => cO (¬ (x2 < 0 ∨ 6 ≤ x2.toNatClampNeg)) (oB (F_X7_pay N (x0 + 28 + 2 * x2.toNatClampNeg) ((aI σ x1 1) * (aI σ (23 + (aI σ x1 0).toNatClampNeg) 3)) (23 + (aI σ x1 0).toNatClampNeg) (aI σ7 x0 6) σ7) fun y11 σ12 => some ((), σ12))))) = some q := h
  show Ev xs L 67 0 [.ref x0, .ref x1, .int x2, aU, aU, aU] [] σ (wV q.1) q.2 ∧ Gr q.2
  refine ev_a (fun he => ev_aload rfl rfl he) ?_
  refine ev_a (fun he => ev_getR rfl (gr_ob (n := 9) hG (sh_Sale0 hx0)) (gr_p hG (gf_Sale0 hx0)) he) ?_
  refine ev_a (fun he => ev_getR rfl (gr_ob (n := 7) hG rfl) (gr_p (a := 11) (k := 0) (b := 12) hG rfl) he) ?_
  refine ev_a (fun he => ev_aload rfl rfl he) ?_
  refine ev_a (fun he => ev_getI rfl (gr_ob (n := 5) hG (sh_Ck0 hx1)) he) ?_
  obtain ⟨hc1, h⟩ := cO_inv h
  refine ev_a (fun he => ev_aldR rfl (gr_ar hG rfl) (by decide) hc1 (gr_p hG (el_Lo hc1).1) he) ?_
  refine ev_a (fun he => ev_astore (ls' := [.ref x0, .ref x1, .int x2, .ref (23 + (aI σ x1 0).toNatClampNeg), aU, aU]) rfl (Nat.le_of_ble_eq_true rfl) rfl he) ?_
  refine ev_a (fun he => ev_aload rfl rfl he) ?_
  refine ev_a (fun he => ev_getR rfl (gr_ob (n := 9) hG (sh_Sale0 hx0)) (gr_p hG (gf_Sale1 hx0)) he) ?_
  refine ev_a (fun he => ev_aload rfl rfl he) ?_
  refine ev_a (fun he => ev_getI rfl (gr_ob (n := 5) hG (sh_Ck0 hx1)) he) ?_
  obtain ⟨hc2, h⟩ := cO_inv h
  refine ev_a (fun he => ev_aldR rfl (gr_ar hG (sh_Sale1 hx0)) (by decide) hc2 (gr_p hG (el_Ou hx0 hc2).1) he) ?_
  refine ev_a (fun he => ev_astore (ls' := [.ref x0, .ref x1, .int x2, .ref (23 + (aI σ x1 0).toNatClampNeg), .ref (x0 + 4 + (aI σ x1 0).toNatClampNeg), aU]) rfl (Nat.le_of_ble_eq_true rfl) rfl he) ?_
  refine ev_a (fun he => ev_aload rfl rfl he) ?_
  refine ev_a (fun he => ev_getI rfl (gr_ob (n := 5) hG (sh_Ck0 hx1)) he) ?_
  refine ev_a (fun he => ev_aload rfl rfl he) ?_
  refine ev_a (fun he => ev_getI rfl (gr_ob (n := 5) hG (sh_Lo0 (el_Lo hc1).2)) he) ?_
  refine ev_a (fun he => ev_bin (z := (aI σ x1 1) * (aI σ (23 + (aI σ x1 0).toNatClampNeg) 3)) rfl rfl he) ?_
  refine ev_a (fun he => ev_istore (ls' := [.ref x0, .ref x1, .int x2, .ref (23 + (aI σ x1 0).toNatClampNeg), .ref (x0 + 4 + (aI σ x1 0).toNatClampNeg), .int ((aI σ x1 1) * (aI σ (23 + (aI σ x1 0).toNatClampNeg) 3))]) rfl (Nat.le_of_ble_eq_true rfl) rfl he) ?_
  refine ev_a (fun he => ev_aload rfl rfl he) ?_
  refine ev_a (fun he => ev_iload rfl rfl he) ?_
  obtain ⟨σ3, e4, h⟩ := lt_inv h
  have hG5 : Gr σ3 := gr_wi e4 hG
  refine ev_a (fun he => ev_putI rfl (gr_ob (n := 8) hG (sh_Ou0 (el_Ou hx0 hc2).2)) e4 he) ?_
  refine ev_a (fun he => ev_aload rfl rfl he) ?_
  refine ev_a (fun he => ev_iload rfl rfl he) ?_
  refine ev_a (fun he => ev_iload rfl rfl he) ?_
  refine ev_a (fun he => ev_push rfl he) ?_
  refine ev_a (fun he => ev_bin (z := ((aI σ x1 1) * (aI σ (23 + (aI σ x1 0).toNatClampNeg) 3)) * 3) rfl rfl he) ?_
  refine ev_a (fun he => ev_push rfl he) ?_
  refine ev_a (fun he => ev_div rfl (by decide) he) ?_
  refine ev_a (fun he => ev_bin (z := ((aI σ x1 1) * (aI σ (23 + (aI σ x1 0).toNatClampNeg) 3)) - ((((aI σ x1 1) * (aI σ (23 + (aI σ x1 0).toNatClampNeg) 3)) * 3) / 100)) rfl rfl he) ?_
  obtain ⟨σ7, e8, h⟩ := lt_inv h
  have hG9 : Gr σ7 := gr_wi e8 hG5
  refine ev_a (fun he => ev_putI rfl (gr_ob (n := 8) hG5 (sh_Ou0 (el_Ou hx0 hc2).2)) e8 he) ?_
  refine ev_a (fun he => ev_aload rfl rfl he) ?_
  refine ev_a (fun he => ev_getR rfl (gr_ob (n := 9) hG9 (sh_Sale0 hx0)) (gr_p hG9 (gf_Sale2 hx0)) he) ?_
  refine ev_a (fun he => ev_iload rfl rfl he) ?_
  obtain ⟨hc10, h⟩ := cO_inv h
  refine ev_a (fun he => ev_aldR rfl (gr_ar hG9 (sh_Sale2 hx0)) (by decide) hc10 (gr_p hG9 (el_Pu hx0 hc10).1) he) ?_
  refine ev_a (fun he => ev_iload rfl rfl he) ?_
  refine ev_a (fun he => ev_aload rfl rfl he) ?_
  refine ev_a (fun he => ev_aload rfl rfl he) ?_
  refine ev_a (fun he => ev_getI rfl (gr_ob (n := 9) hG9 (sh_Sale0 hx0)) he) ?_
  obtain ⟨y11, σ12, h13, h⟩ := oB_inv h
  obtain ⟨c14, hG15⟩ := T_X7_pay xs L N (x0 + 28 + 2 * x2.toNatClampNeg) ((aI σ x1 1) * (aI σ (23 + (aI σ x1 0).toNatClampNeg) 3)) (23 + (aI σ x1 0).toNatClampNeg) (aI σ7 x0 6) σ7 (y11, σ12) h13 hG9 (el_Pu hx0 hc10).2 (el_Lo hc1).2
  refine ev_a (fun he => ev_callV (as := [.int ((aI σ x1 1) * (aI σ (23 + (aI σ x1 0).toNatClampNeg) 3)), .ref (23 + (aI σ x1 0).toNatClampNeg), .int (aI σ7 x0 6)]) rfl (gr_ob (n := 5) hG9 (sh_Pu0 (el_Pu hx0 hc10).2)) rfl rfl rfl (Nat.le_of_ble_eq_true rfl) (Nat.le_of_ble_eq_true rfl) c14 he) ?_
  cases h
  exact ⟨ev_retV rfl, hG15⟩
def F_X9_settle (N : Nat) (x0 : Nat) (x1 : Int32) (x2 : Int32) (σ : aSt) : Option (Unit × aSt) := cO (¬ (x1 < 0 ∨ 3 ≤ x1.toNatClampNeg)) (cO (¬ ((aI σ (x0 + 40 + 2 * x1.toNatClampNeg) 0) < 0 ∨ 24 ≤ (aI σ (x0 + 40 + 2 * x1.toNatClampNeg) 0).toNatClampNeg)) (lt (aWI σ (x0 + 4 + (aI σ (x0 + 40 + 2 * x1.toNatClampNeg) 0).toNatClampNeg) 1 x2) fun σ3 => lt (aWI σ3 (x0 + 4 + (aI σ (x0 + 40 + 2 * x1.toNatClampNeg) 0).toNatClampNeg) 2 (aI σ3 x0 6)) fun σ6 => lt (aWI σ6 (x0 + 4 + (aI σ (x0 + 40 + 2 * x1.toNatClampNeg) 0).toNatClampNeg) 3 x1) fun σ9 => cO (¬ (x1 < 0 ∨ 3 ≤ x1.toNatClampNeg)) (lt (aWI σ9 (x0 + 40 + 2 * x1.toNatClampNeg) 0 ((-1))) fun σ13 => lt (aWI σ13 x0 3 (aI σ13 x0 6)) fun σ16 => lt (aWI σ16 x0 8 ((aI σ16 x0 8) + 1)) fun σ19 => some ((), σ19))))
set_option maxRecDepth 20000 in
set_option maxHeartbeats 4000000 in
theorem T_X9_settle (xs : Nat → Int32) (L : Nat) (N : Nat) (x0 : Nat) (x1 : Int32) (x2 : Int32) (σ : aSt) (q : Unit × aSt) (h : F_X9_settle N x0 x1 x2 σ = some q) (hG : Gr σ) (hx0 : isSale x0) : Cal xs L 69 [.ref x0, .int x1, .int x2] σ (wV q.1) q.2 ∧ Gr q.2 := by
  have h : (cO (¬ (x1 < 0 ∨ 3 ≤ x1.toNatClampNeg)) (cO (¬ ((aI σ (x0 + 40 + 2 * x1.toNatClampNeg) 0) < 0 ∨ 24 ≤ (aI σ (x0 + 40 + 2 * x1.toNatClampNeg) 0).toNatClampNeg)) (lt (aWI σ (x0 + 4 + (aI σ (x0 + 40 + 2 * x1.toNatClampNeg) 0).toNatClampNeg) 1 x2) fun σ3 => lt (aWI σ3 (x0 + 4 + (aI σ (x0 + 40 + 2 * x1.toNatClampNeg) 0).toNatClampNeg) 2 (aI σ3 x0 6)) fun σ6 => lt (aWI σ6 (x0 + 4 + (aI σ (x0 + 40 + 2 * x1.toNatClampNeg) 0).toNatClampNeg) 3 x1) fun σ9 => cO (¬ (x1 < 0 ∨ 3 ≤ x1.toNatClampNeg)) (lt (aWI σ9 (x0 + 40 + 2 * x1.toNatClampNeg) 0 ((-1))) fun σ13 => lt (aWI σ13 x0 3 (aI σ13 x0 6)) fun σ16 => lt (aWI σ16 x0 8 ((aI σ16 x0 8) + 1)) fun σ19 => some ((), σ19))))) = some q := h
  show Ev xs L 69 0 [.ref x0, .int x1, .int x2, aU] [] σ (wV q.1) q.2 ∧ Gr q.2
  refine ev_a (fun he => ev_aload rfl rfl he) ?_
  refine ev_a (fun he => ev_getR rfl (gr_ob (n := 9) hG (sh_Sale0 hx0)) (gr_p hG (gf_Sale1 hx0)) he) ?_
  refine ev_a (fun he => ev_aload rfl rfl he) ?_
  refine ev_a (fun he => ev_getR rfl (gr_ob (n := 9) hG (sh_Sale0 hx0)) (gr_p hG (gf_Sale4 hx0)) he) ?_
  refine ev_a (fun he => ev_iload rfl rfl he) ?_
  obtain ⟨hc1, h⟩ := cO_inv h
  refine ev_a (fun he => ev_aldR rfl (gr_ar hG (sh_Sale3 hx0)) (by decide) hc1 (gr_p hG (el_Ck hx0 hc1).1) he) ?_
  refine ev_a (fun he => ev_getI rfl (gr_ob (n := 5) hG (sh_Ck0 (el_Ck hx0 hc1).2)) he) ?_
  obtain ⟨hc2, h⟩ := cO_inv h
  refine ev_a (fun he => ev_aldR rfl (gr_ar hG (sh_Sale1 hx0)) (by decide) hc2 (gr_p hG (el_Ou hx0 hc2).1) he) ?_
  refine ev_a (fun he => ev_astore (ls' := [.ref x0, .int x1, .int x2, .ref (x0 + 4 + (aI σ (x0 + 40 + 2 * x1.toNatClampNeg) 0).toNatClampNeg)]) rfl (Nat.le_of_ble_eq_true rfl) rfl he) ?_
  refine ev_a (fun he => ev_aload rfl rfl he) ?_
  refine ev_a (fun he => ev_iload rfl rfl he) ?_
  obtain ⟨σ3, e4, h⟩ := lt_inv h
  have hG5 : Gr σ3 := gr_wi e4 hG
  refine ev_a (fun he => ev_putI rfl (gr_ob (n := 8) hG (sh_Ou0 (el_Ou hx0 hc2).2)) e4 he) ?_
  refine ev_a (fun he => ev_aload rfl rfl he) ?_
  refine ev_a (fun he => ev_aload rfl rfl he) ?_
  refine ev_a (fun he => ev_getI rfl (gr_ob (n := 9) hG5 (sh_Sale0 hx0)) he) ?_
  obtain ⟨σ6, e7, h⟩ := lt_inv h
  have hG8 : Gr σ6 := gr_wi e7 hG5
  refine ev_a (fun he => ev_putI rfl (gr_ob (n := 8) hG5 (sh_Ou0 (el_Ou hx0 hc2).2)) e7 he) ?_
  refine ev_a (fun he => ev_aload rfl rfl he) ?_
  refine ev_a (fun he => ev_iload rfl rfl he) ?_
  obtain ⟨σ9, e10, h⟩ := lt_inv h
  have hG11 : Gr σ9 := gr_wi e10 hG8
  refine ev_a (fun he => ev_putI rfl (gr_ob (n := 8) hG8 (sh_Ou0 (el_Ou hx0 hc2).2)) e10 he) ?_
  refine ev_a (fun he => ev_aload rfl rfl he) ?_
  refine ev_a (fun he => ev_getR rfl (gr_ob (n := 9) hG11 (sh_Sale0 hx0)) (gr_p hG11 (gf_Sale4 hx0)) he) ?_
  refine ev_a (fun he => ev_iload rfl rfl he) ?_
  obtain ⟨hc12, h⟩ := cO_inv h
  refine ev_a (fun he => ev_aldR rfl (gr_ar hG11 (sh_Sale3 hx0)) (by decide) hc12 (gr_p hG11 (el_Ck hx0 hc12).1) he) ?_
  refine ev_a (fun he => ev_push rfl he) ?_
  obtain ⟨σ13, e14, h⟩ := lt_inv h
  have hG15 : Gr σ13 := gr_wi e14 hG11
  refine ev_a (fun he => ev_putI rfl (gr_ob (n := 5) hG11 (sh_Ck0 (el_Ck hx0 hc12).2)) e14 he) ?_
  refine ev_a (fun he => ev_aload rfl rfl he) ?_
  refine ev_a (fun he => ev_aload rfl rfl he) ?_
  refine ev_a (fun he => ev_getI rfl (gr_ob (n := 9) hG15 (sh_Sale0 hx0)) he) ?_
  obtain ⟨σ16, e17, h⟩ := lt_inv h
  have hG18 : Gr σ16 := gr_wi e17 hG15
  refine ev_a (fun he => ev_putI rfl (gr_ob (n := 9) hG15 (sh_Sale0 hx0)) e17 he) ?_
  refine ev_a (fun he => ev_aload rfl rfl he) ?_
  refine ev_a (fun he => ev_dupR rfl he) ?_
  refine ev_a (fun he => ev_getI rfl (gr_ob (n := 9) hG18 (sh_Sale0 hx0)) he) ?_
  refine ev_a (fun he => ev_push rfl he) ?_
  refine ev_a (fun he => ev_bin (z := (aI σ16 x0 8) + 1) rfl rfl he) ?_
  obtain ⟨σ19, e20, h⟩ := lt_inv h
  have hG21 : Gr σ19 := gr_wi e20 hG18
  refine ev_a (fun he => ev_putI rfl (gr_ob (n := 9) hG18 (sh_Sale0 hx0)) e20 he) ?_
  cases h
  exact ⟨ev_retV rfl, hG21⟩
def J_X9_stopClocks_51 (N : Nat) (k2 : Nat → Int32 → aSt → Option (Unit × aSt)) (x0 : Nat) (x1 : Int32) (σ : aSt) : Option (Unit × aSt) := k2 x0 (x1 + 1) σ
set_option maxRecDepth 20000 in
set_option maxHeartbeats 4000000 in
theorem TJ_X9_stopClocks_51 (xs : Nat → Int32) (L : Nat) (N : Nat) (k2 : Nat → Int32 → aSt → Option (Unit × aSt)) (hk2 : ∀ (x0 : Nat) (x1 : Int32) (d2 : Value) (d3 : Value) (σ : aSt) (q : Unit × aSt), k2 x0 x1 σ = some q → Gr σ → isSale x0 → Ev xs L 65 2 [.ref x0, .int x1, d2, d3] [] σ (wV q.1) q.2 ∧ Gr q.2) (x0 : Nat) (x1 : Int32) (d2 : Value) (d3 : Value) (σ : aSt) (q : Unit × aSt) (h : J_X9_stopClocks_51 N k2 x0 x1 σ = some q) (hG : Gr σ) (hx0 : isSale x0) : Ev xs L 65 51 [.ref x0, .int x1, d2, d3] [] σ (wV q.1) q.2 ∧ Gr q.2 := by
  have h : (k2 x0 (x1 + 1) σ) = some q := h
  refine ev_a (fun he => ev_iinc (ls' := [.ref x0, .int (x1 + 1), d2, d3]) rfl rfl rfl (Nat.le_of_ble_eq_true rfl) rfl he) ?_
  refine ev_a (fun he => ev_goto rfl he) ?_
  exact hk2 x0 (x1 + 1) (d2) (d3) σ q h hG hx0
def J_X9_stopClocks_30 (N : Nat) (k2 : Nat → Int32 → aSt → Option (Unit × aSt)) (x0 : Nat) (x1 : Int32) (x2 : Nat) (s0 : Int32) (σ : aSt) : Option (Unit × aSt) := if s0 = ((-1)) then J_X9_stopClocks_51 N k2 x0 x1 σ else oB (F_X9_sell N x0 x2 s0 σ) fun y2 σ3 => oB (F_X9_settle N x0 x1 (aI σ3 x2 1) σ3) fun y7 σ8 => J_X9_stopClocks_51 N k2 x0 x1 σ8
set_option maxRecDepth 20000 in
set_option maxHeartbeats 4000000 in
theorem TJ_X9_stopClocks_30 (xs : Nat → Int32) (L : Nat) (N : Nat) (k2 : Nat → Int32 → aSt → Option (Unit × aSt)) (hk2 : ∀ (x0 : Nat) (x1 : Int32) (d2 : Value) (d3 : Value) (σ : aSt) (q : Unit × aSt), k2 x0 x1 σ = some q → Gr σ → isSale x0 → Ev xs L 65 2 [.ref x0, .int x1, d2, d3] [] σ (wV q.1) q.2 ∧ Gr q.2) (x0 : Nat) (x1 : Int32) (x2 : Nat) (s0 : Int32) (d3 : Value) (σ : aSt) (q : Unit × aSt) (h : J_X9_stopClocks_30 N k2 x0 x1 x2 s0 σ = some q) (hG : Gr σ) (hx0 : isSale x0) (hx2 : isCk x2) : Ev xs L 65 30 [.ref x0, .int x1, .ref x2, d3] [.int s0] σ (wV q.1) q.2 ∧ Gr q.2 := by
  have h : (if s0 = ((-1)) then J_X9_stopClocks_51 N k2 x0 x1 σ else oB (F_X9_sell N x0 x2 s0 σ) fun y2 σ3 => oB (F_X9_settle N x0 x1 (aI σ3 x2 1) σ3) fun y7 σ8 => J_X9_stopClocks_51 N k2 x0 x1 σ8) = some q := h
  refine ev_a (fun he => ev_istore (ls' := [.ref x0, .int x1, .ref x2, .int s0]) rfl (Nat.le_of_ble_eq_true rfl) rfl he) ?_
  refine ev_a (fun he => ev_iload rfl rfl he) ?_
  refine ev_a (fun he => ev_push rfl he) ?_
  refine ev_b (c := s0 = ((-1))) (fun ht hf => ev_ceq rfl ht hf) (fun hc1 => ?_) (fun hc1 => ?_)
  · rw [if_pos hc1] at h
    exact TJ_X9_stopClocks_51 xs L N k2 hk2 x0 x1 (.ref x2) (.int s0) σ q h hG hx0
  · rw [if_neg hc1] at h
    refine ev_a (fun he => ev_aload rfl rfl he) ?_
    refine ev_a (fun he => ev_aload rfl rfl he) ?_
    refine ev_a (fun he => ev_iload rfl rfl he) ?_
    obtain ⟨y2, σ3, h4, h⟩ := oB_inv h
    obtain ⟨c5, hG6⟩ := T_X9_sell xs L N x0 x2 s0 σ (y2, σ3) h4 hG hx0 hx2
    refine ev_a (fun he => ev_callV (as := [.ref x2, .int s0]) rfl (gr_ob (n := 9) hG (sh_Sale0 hx0)) rfl rfl rfl (Nat.le_of_ble_eq_true rfl) (Nat.le_of_ble_eq_true rfl) c5 he) ?_
    refine ev_a (fun he => ev_aload rfl rfl he) ?_
    refine ev_a (fun he => ev_iload rfl rfl he) ?_
    refine ev_a (fun he => ev_aload rfl rfl he) ?_
    refine ev_a (fun he => ev_getI rfl (gr_ob (n := 5) hG6 (sh_Ck0 hx2)) he) ?_
    obtain ⟨y7, σ8, h9, h⟩ := oB_inv h
    obtain ⟨c10, hG11⟩ := T_X9_settle xs L N x0 x1 (aI σ3 x2 1) σ3 (y7, σ8) h9 hG6 hx0
    refine ev_a (fun he => ev_callV (as := [.int x1, .int (aI σ3 x2 1)]) rfl (gr_ob (n := 9) hG6 (sh_Sale0 hx0)) rfl rfl rfl (Nat.le_of_ble_eq_true rfl) (Nat.le_of_ble_eq_true rfl) c10 he) ?_
    exact TJ_X9_stopClocks_51 xs L N k2 hk2 x0 x1 (.ref x2) (.int s0) σ8 q h hG11 hx0
def H_X9_stopClocks_2 (N : Nat) : Nat → Nat → Int32 → aSt → Option (Unit × aSt)
  | 0, _, _, _ => none
  | n + 1, x0, x1, σ => if 3 ≤ x1 then some ((), σ) else cO (¬ (x1 < 0 ∨ 3 ≤ x1.toNatClampNeg)) (oB (F_X1_isEmpty N (x0 + 40 + 2 * x1.toNatClampNeg) σ) fun y14 σ15 => if y14 = 0 then oB (F_X9_whoStops N x0 (x0 + 40 + 2 * x1.toNatClampNeg) σ15) fun y20 σ21 => J_X9_stopClocks_30 N (H_X9_stopClocks_2 N n) x0 x1 (x0 + 40 + 2 * x1.toNatClampNeg) y20 σ21 else J_X9_stopClocks_30 N (H_X9_stopClocks_2 N n) x0 x1 (x0 + 40 + 2 * x1.toNatClampNeg) ((-1)) σ15)
set_option maxRecDepth 20000 in
set_option maxHeartbeats 4000000 in
theorem TH_X9_stopClocks_2 (xs : Nat → Int32) (L : Nat) (N : Nat) : ∀ (n : Nat) (x0 : Nat) (x1 : Int32) (d2 : Value) (d3 : Value) (σ : aSt) (q : Unit × aSt), H_X9_stopClocks_2 N n x0 x1 σ = some q → Gr σ → isSale x0 → Ev xs L 65 2 [.ref x0, .int x1, d2, d3] [] σ (wV q.1) q.2 ∧ Gr q.2 := by
  intro n
  induction n with
  | zero =>
    intro x0 x1 d2 d3 σ q h hG hx0
    exact absurd (show (none : Option (Unit × aSt)) = some q from h) (by simp)
  | succ n ih =>
    intro x0 x1 d2 d3 σ q h hG hx0
    have hk2 : ∀ (x0 : Nat) (x1 : Int32) (d2 : Value) (d3 : Value) (σ : aSt) (q : Unit × aSt), H_X9_stopClocks_2 N n x0 x1 σ = some q → Gr σ → isSale x0 → Ev xs L 65 2 [.ref x0, .int x1, d2, d3] [] σ (wV q.1) q.2 ∧ Gr q.2 := ih
    have h : (if 3 ≤ x1 then some ((), σ) else cO (¬ (x1 < 0 ∨ 3 ≤ x1.toNatClampNeg)) (oB (F_X1_isEmpty N (x0 + 40 + 2 * x1.toNatClampNeg) σ) fun y14 σ15 => if y14 = 0 then oB (F_X9_whoStops N x0 (x0 + 40 + 2 * x1.toNatClampNeg) σ15) fun y20 σ21 => J_X9_stopClocks_30 N (H_X9_stopClocks_2 N n) x0 x1 (x0 + 40 + 2 * x1.toNatClampNeg) y20 σ21 else J_X9_stopClocks_30 N (H_X9_stopClocks_2 N n) x0 x1 (x0 + 40 + 2 * x1.toNatClampNeg) ((-1)) σ15)) = some q := h
    refine ev_a (fun he => ev_iload rfl rfl he) ?_
    refine ev_a (fun he => ev_push rfl he) ?_
    refine ev_b (c := 3 ≤ x1) (fun ht hf => ev_cge rfl ht hf) (fun hc12 => ?_) (fun hc12 => ?_)
    · rw [if_pos hc12] at h
      cases h
      exact ⟨ev_retV rfl, hG⟩
    · rw [if_neg hc12] at h
      refine ev_a (fun he => ev_aload rfl rfl he) ?_
      refine ev_a (fun he => ev_getR rfl (gr_ob (n := 9) hG (sh_Sale0 hx0)) (gr_p hG (gf_Sale4 hx0)) he) ?_
      refine ev_a (fun he => ev_iload rfl rfl he) ?_
      obtain ⟨hc13, h⟩ := cO_inv h
      refine ev_a (fun he => ev_aldR rfl (gr_ar hG (sh_Sale3 hx0)) (by decide) hc13 (gr_p hG (el_Ck hx0 hc13).1) he) ?_
      refine ev_a (fun he => ev_astore (ls' := [.ref x0, .int x1, .ref (x0 + 40 + 2 * x1.toNatClampNeg), d3]) rfl (Nat.le_of_ble_eq_true rfl) rfl he) ?_
      refine ev_a (fun he => ev_aload rfl rfl he) ?_
      obtain ⟨y14, σ15, h16, h⟩ := oB_inv h
      obtain ⟨c17, hG18⟩ := T_X1_isEmpty xs L N (x0 + 40 + 2 * x1.toNatClampNeg) σ (y14, σ15) h16 hG (el_Ck hx0 hc13).2
      refine ev_a (fun he => ev_callV (as := []) rfl (gr_ob (n := 5) hG (sh_Ck0 (el_Ck hx0 hc13).2)) rfl rfl rfl (Nat.le_of_ble_eq_true rfl) (Nat.le_of_ble_eq_true rfl) c17 he) ?_
      refine ev_b (c := y14 = 0) (fun ht hf => ev_ifeq rfl ht hf) (fun hc19 => ?_) (fun hc19 => ?_)
      · rw [if_pos hc19] at h
        refine ev_a (fun he => ev_aload rfl rfl he) ?_
        refine ev_a (fun he => ev_aload rfl rfl he) ?_
        obtain ⟨y20, σ21, h22, h⟩ := oB_inv h
        obtain ⟨c23, hG24⟩ := T_X9_whoStops xs L N x0 (x0 + 40 + 2 * x1.toNatClampNeg) σ15 (y20, σ21) h22 hG18 hx0 (el_Ck hx0 hc13).2
        refine ev_a (fun he => ev_callV (as := [.ref (x0 + 40 + 2 * x1.toNatClampNeg)]) rfl (gr_ob (n := 9) hG18 (sh_Sale0 hx0)) rfl rfl rfl (Nat.le_of_ble_eq_true rfl) (Nat.le_of_ble_eq_true rfl) c23 he) ?_
        exact TJ_X9_stopClocks_30 xs L N (H_X9_stopClocks_2 N n) hk2 x0 x1 (x0 + 40 + 2 * x1.toNatClampNeg) y20 (d3) σ21 q h hG24 hx0 (el_Ck hx0 hc13).2
      · rw [if_neg hc19] at h
        refine ev_a (fun he => ev_push rfl he) ?_
        refine ev_a (fun he => ev_goto rfl he) ?_
        exact TJ_X9_stopClocks_30 xs L N (H_X9_stopClocks_2 N n) hk2 x0 x1 (x0 + 40 + 2 * x1.toNatClampNeg) ((-1)) (d3) σ15 q h hG18 hx0 (el_Ck hx0 hc13).2
def F_X9_stopClocks (N : Nat) (x0 : Nat) (σ : aSt) : Option (Unit × aSt) := H_X9_stopClocks_2 N N x0 0 σ
set_option maxRecDepth 20000 in
set_option maxHeartbeats 4000000 in
theorem T_X9_stopClocks (xs : Nat → Int32) (L : Nat) (N : Nat) (x0 : Nat) (σ : aSt) (q : Unit × aSt) (h : F_X9_stopClocks N x0 σ = some q) (hG : Gr σ) (hx0 : isSale x0) : Cal xs L 65 [.ref x0] σ (wV q.1) q.2 ∧ Gr q.2 := by
  have h : (H_X9_stopClocks_2 N N x0 0 σ) = some q := h
  show Ev xs L 65 0 [.ref x0, aU, aU, aU] [] σ (wV q.1) q.2 ∧ Gr q.2
  refine ev_a (fun he => ev_push rfl he) ?_
  refine ev_a (fun he => ev_istore (ls' := [.ref x0, .int 0, aU, aU]) rfl (Nat.le_of_ble_eq_true rfl) rfl he) ?_
  exact TH_X9_stopClocks_2 xs L N N x0 0 (aU) (aU) σ q h hG hx0
