def J_X9_boxesLeftFor_66 (N : Nat) (k4 : Nat → Int32 → Int32 → Int32 → aSt → Option (Int32 × aSt)) (x0 : Nat) (x1 : Int32) (x3 : Int32) (s0 : Int32) (s1 : Int32) (σ : aSt) : Option (Int32 × aSt) := k4 x0 x1 (s0 + s1) (x3 + 1) σ
set_option maxRecDepth 20000 in
set_option maxHeartbeats 4000000 in
theorem TJ_X9_boxesLeftFor_66 (xs : Nat → Int32) (L : Nat) (N : Nat) (k4 : Nat → Int32 → Int32 → Int32 → aSt → Option (Int32 × aSt)) (hk4 : ∀ (x0 : Nat) (x1 : Int32) (x2 : Int32) (x3 : Int32) (d4 : Value) (σ : aSt) (q : Int32 × aSt), k4 x0 x1 x2 x3 σ = some q → Gr σ → isSale x0 → Ev xs L 79 4 [.ref x0, .int x1, .int x2, .int x3, d4] [] σ (wI q.1) q.2 ∧ Gr q.2) (x0 : Nat) (x1 : Int32) (x3 : Int32) (s0 : Int32) (s1 : Int32) (d2 : Value) (d4 : Value) (σ : aSt) (q : Int32 × aSt) (h : J_X9_boxesLeftFor_66 N k4 x0 x1 x3 s0 s1 σ = some q) (hG : Gr σ) (hx0 : isSale x0) : Ev xs L 79 66 [.ref x0, .int x1, d2, .int x3, d4] [.int s1, .int s0] σ (wI q.1) q.2 ∧ Gr q.2 := by
  have h : (k4 x0 x1 (s0 + s1) (x3 + 1) σ) = some q := h
  refine ev_a (fun he => ev_bin (z := s0 + s1) rfl rfl he) ?_
  refine ev_a (fun he => ev_istore (ls' := [.ref x0, .int x1, .int (s0 + s1), .int x3, d4]) rfl (Nat.le_of_ble_eq_true rfl) rfl he) ?_
  refine ev_a (fun he => ev_iinc (ls' := [.ref x0, .int x1, .int (s0 + s1), .int (x3 + 1), d4]) rfl rfl rfl (Nat.le_of_ble_eq_true rfl) rfl he) ?_
  refine ev_a (fun he => ev_goto rfl he) ?_
  exact hk4 x0 x1 (s0 + s1) (x3 + 1) (d4) σ q h hG hx0
def J_X9_boxesLeftFor_42 (N : Nat) (k4 : Nat → Int32 → Int32 → Int32 → aSt → Option (Int32 × aSt)) (x0 : Nat) (x1 : Int32) (x2 : Int32) (x3 : Int32) (s0 : Int32) (σ : aSt) : Option (Int32 × aSt) := if s0 = 0 then J_X9_boxesLeftFor_66 N k4 x0 x1 x3 x2 0 σ else cO (¬ (x3 < 0 ∨ 24 ≤ x3.toNatClampNeg)) (J_X9_boxesLeftFor_66 N k4 x0 x1 x3 x2 (aI σ (23 + x3.toNatClampNeg) 3) σ)
set_option maxRecDepth 20000 in
set_option maxHeartbeats 4000000 in
theorem TJ_X9_boxesLeftFor_42 (xs : Nat → Int32) (L : Nat) (N : Nat) (k4 : Nat → Int32 → Int32 → Int32 → aSt → Option (Int32 × aSt)) (hk4 : ∀ (x0 : Nat) (x1 : Int32) (x2 : Int32) (x3 : Int32) (d4 : Value) (σ : aSt) (q : Int32 × aSt), k4 x0 x1 x2 x3 σ = some q → Gr σ → isSale x0 → Ev xs L 79 4 [.ref x0, .int x1, .int x2, .int x3, d4] [] σ (wI q.1) q.2 ∧ Gr q.2) (x0 : Nat) (x1 : Int32) (x2 : Int32) (x3 : Int32) (s0 : Int32) (d4 : Value) (σ : aSt) (q : Int32 × aSt) (h : J_X9_boxesLeftFor_42 N k4 x0 x1 x2 x3 s0 σ = some q) (hG : Gr σ) (hx0 : isSale x0) : Ev xs L 79 42 [.ref x0, .int x1, .int x2, .int x3, d4] [.int s0] σ (wI q.1) q.2 ∧ Gr q.2 := by
  have h : (if s0 = 0 then J_X9_boxesLeftFor_66 N k4 x0 x1 x3 x2 0 σ else cO (¬ (x3 < 0 ∨ 24 ≤ x3.toNatClampNeg)) (J_X9_boxesLeftFor_66 N k4 x0 x1 x3 x2 (aI σ (23 + x3.toNatClampNeg) 3) σ)) = some q := h
  refine ev_a (fun he => ev_istore (ls' := [.ref x0, .int x1, .int x2, .int x3, .int s0]) rfl (Nat.le_of_ble_eq_true rfl) rfl he) ?_
  refine ev_a (fun he => ev_iload rfl rfl he) ?_
  refine ev_a (fun he => ev_iload rfl rfl he) ?_
  refine ev_b (c := s0 = 0) (fun ht hf => ev_ifeq rfl ht hf) (fun hc1 => ?_) (fun hc1 => ?_)
  · rw [if_pos hc1] at h
    refine ev_a (fun he => ev_push rfl he) ?_
    exact TJ_X9_boxesLeftFor_66 xs L N k4 hk4 x0 x1 x3 x2 0 (.int x2) (.int s0) σ q h hG hx0
  · rw [if_neg hc1] at h
    refine ev_a (fun he => ev_aload rfl rfl he) ?_
    refine ev_a (fun he => ev_getR rfl (gr_ob (n := 9) hG (sh_Sale0 hx0)) (gr_p hG (gf_Sale0 hx0)) he) ?_
    refine ev_a (fun he => ev_getR rfl (gr_ob (n := 7) hG rfl) (gr_p (a := 11) (k := 0) (b := 12) hG rfl) he) ?_
    refine ev_a (fun he => ev_iload rfl rfl he) ?_
    obtain ⟨hc2, h⟩ := cO_inv h
    refine ev_a (fun he => ev_aldR rfl (gr_ar hG rfl) (by decide) hc2 (gr_p hG (el_Lo hc2).1) he) ?_
    refine ev_a (fun he => ev_getI rfl (gr_ob (n := 5) hG (sh_Lo0 (el_Lo hc2).2)) he) ?_
    refine ev_a (fun he => ev_goto rfl he) ?_
    exact TJ_X9_boxesLeftFor_66 xs L N k4 hk4 x0 x1 x3 x2 (aI σ (23 + x3.toNatClampNeg) 3) (.int x2) (.int s0) σ q h hG hx0
def J_X9_boxesLeftFor_41 (N : Nat) (k4 : Nat → Int32 → Int32 → Int32 → aSt → Option (Int32 × aSt)) (x0 : Nat) (x1 : Int32) (x2 : Int32) (x3 : Int32) (σ : aSt) : Option (Int32 × aSt) := J_X9_boxesLeftFor_42 N k4 x0 x1 x2 x3 0 σ
set_option maxRecDepth 20000 in
set_option maxHeartbeats 4000000 in
theorem TJ_X9_boxesLeftFor_41 (xs : Nat → Int32) (L : Nat) (N : Nat) (k4 : Nat → Int32 → Int32 → Int32 → aSt → Option (Int32 × aSt)) (hk4 : ∀ (x0 : Nat) (x1 : Int32) (x2 : Int32) (x3 : Int32) (d4 : Value) (σ : aSt) (q : Int32 × aSt), k4 x0 x1 x2 x3 σ = some q → Gr σ → isSale x0 → Ev xs L 79 4 [.ref x0, .int x1, .int x2, .int x3, d4] [] σ (wI q.1) q.2 ∧ Gr q.2) (x0 : Nat) (x1 : Int32) (x2 : Int32) (x3 : Int32) (d4 : Value) (σ : aSt) (q : Int32 × aSt) (h : J_X9_boxesLeftFor_41 N k4 x0 x1 x2 x3 σ = some q) (hG : Gr σ) (hx0 : isSale x0) : Ev xs L 79 41 [.ref x0, .int x1, .int x2, .int x3, d4] [] σ (wI q.1) q.2 ∧ Gr q.2 := by
  have h : (J_X9_boxesLeftFor_42 N k4 x0 x1 x2 x3 0 σ) = some q := h
  refine ev_a (fun he => ev_push rfl he) ?_
  exact TJ_X9_boxesLeftFor_42 xs L N k4 hk4 x0 x1 x2 x3 0 (d4) σ q h hG hx0
def H_X9_boxesLeftFor_4 (N : Nat) : Nat → Nat → Int32 → Int32 → Int32 → aSt → Option (Int32 × aSt)
  | 0, _, _, _, _, _ => none
  | n + 1, x0, x1, x2, x3, σ => if (aI σ 11 1) ≤ x3 then some (x2, σ) else oB (F_X9_isSoldTo N x0 x1 x3 σ) fun y4 σ5 => if y4 = 0 then J_X9_boxesLeftFor_41 N (H_X9_boxesLeftFor_4 N n) x0 x1 x2 x3 σ5 else cO (¬ (x3 < 0 ∨ 24 ≤ x3.toNatClampNeg)) (if (aI σ5 (x0 + 4 + x3.toNatClampNeg) 7) ≠ ((-1)) then J_X9_boxesLeftFor_41 N (H_X9_boxesLeftFor_4 N n) x0 x1 x2 x3 σ5 else J_X9_boxesLeftFor_42 N (H_X9_boxesLeftFor_4 N n) x0 x1 x2 x3 1 σ5)
set_option maxRecDepth 20000 in
set_option maxHeartbeats 4000000 in
theorem TH_X9_boxesLeftFor_4 (xs : Nat → Int32) (L : Nat) (N : Nat) : ∀ (n : Nat) (x0 : Nat) (x1 : Int32) (x2 : Int32) (x3 : Int32) (d4 : Value) (σ : aSt) (q : Int32 × aSt), H_X9_boxesLeftFor_4 N n x0 x1 x2 x3 σ = some q → Gr σ → isSale x0 → Ev xs L 79 4 [.ref x0, .int x1, .int x2, .int x3, d4] [] σ (wI q.1) q.2 ∧ Gr q.2 := by
  intro n
  induction n with
  | zero =>
    intro x0 x1 x2 x3 d4 σ q h hG hx0
    exact absurd (show (none : Option (Int32 × aSt)) = some q from h) (by simp)
  | succ n ih =>
    intro x0 x1 x2 x3 d4 σ q h hG hx0
    have hk4 : ∀ (x0 : Nat) (x1 : Int32) (x2 : Int32) (x3 : Int32) (d4 : Value) (σ : aSt) (q : Int32 × aSt), H_X9_boxesLeftFor_4 N n x0 x1 x2 x3 σ = some q → Gr σ → isSale x0 → Ev xs L 79 4 [.ref x0, .int x1, .int x2, .int x3, d4] [] σ (wI q.1) q.2 ∧ Gr q.2 := ih
    have h : (if (aI σ 11 1) ≤ x3 then some (x2, σ) else oB (F_X9_isSoldTo N x0 x1 x3 σ) fun y4 σ5 => if y4 = 0 then J_X9_boxesLeftFor_41 N (H_X9_boxesLeftFor_4 N n) x0 x1 x2 x3 σ5 else cO (¬ (x3 < 0 ∨ 24 ≤ x3.toNatClampNeg)) (if (aI σ5 (x0 + 4 + x3.toNatClampNeg) 7) ≠ ((-1)) then J_X9_boxesLeftFor_41 N (H_X9_boxesLeftFor_4 N n) x0 x1 x2 x3 σ5 else J_X9_boxesLeftFor_42 N (H_X9_boxesLeftFor_4 N n) x0 x1 x2 x3 1 σ5)) = some q := h
    refine ev_a (fun he => ev_iload rfl rfl he) ?_
    refine ev_a (fun he => ev_aload rfl rfl he) ?_
    refine ev_a (fun he => ev_getR rfl (gr_ob (n := 9) hG (sh_Sale0 hx0)) (gr_p hG (gf_Sale0 hx0)) he) ?_
    refine ev_a (fun he => ev_getI rfl (gr_ob (n := 7) hG rfl) he) ?_
    refine ev_b (c := (aI σ 11 1) ≤ x3) (fun ht hf => ev_cge rfl ht hf) (fun hc3 => ?_) (fun hc3 => ?_)
    · rw [if_pos hc3] at h
      refine ev_a (fun he => ev_iload rfl rfl he) ?_
      cases h
      exact ⟨ev_retI rfl, hG⟩
    · rw [if_neg hc3] at h
      refine ev_a (fun he => ev_aload rfl rfl he) ?_
      refine ev_a (fun he => ev_iload rfl rfl he) ?_
      refine ev_a (fun he => ev_iload rfl rfl he) ?_
      obtain ⟨y4, σ5, h6, h⟩ := oB_inv h
      obtain ⟨c7, hG8⟩ := T_X9_isSoldTo xs L N x0 x1 x3 σ (y4, σ5) h6 hG hx0
      refine ev_a (fun he => ev_callV (as := [.int x1, .int x3]) rfl (gr_ob (n := 9) hG (sh_Sale0 hx0)) rfl rfl rfl (Nat.le_of_ble_eq_true rfl) (Nat.le_of_ble_eq_true rfl) c7 he) ?_
      refine ev_b (c := y4 = 0) (fun ht hf => ev_ifeq rfl ht hf) (fun hc9 => ?_) (fun hc9 => ?_)
      · rw [if_pos hc9] at h
        exact TJ_X9_boxesLeftFor_41 xs L N (H_X9_boxesLeftFor_4 N n) hk4 x0 x1 x2 x3 (d4) σ5 q h hG8 hx0
      · rw [if_neg hc9] at h
        refine ev_a (fun he => ev_aload rfl rfl he) ?_
        refine ev_a (fun he => ev_getR rfl (gr_ob (n := 9) hG8 (sh_Sale0 hx0)) (gr_p hG8 (gf_Sale1 hx0)) he) ?_
        refine ev_a (fun he => ev_iload rfl rfl he) ?_
        obtain ⟨hc10, h⟩ := cO_inv h
        refine ev_a (fun he => ev_aldR rfl (gr_ar hG8 (sh_Sale1 hx0)) (by decide) hc10 (gr_p hG8 (el_Ou hx0 hc10).1) he) ?_
        refine ev_a (fun he => ev_getI rfl (gr_ob (n := 8) hG8 (sh_Ou0 (el_Ou hx0 hc10).2)) he) ?_
        refine ev_a (fun he => ev_push rfl he) ?_
        refine ev_b (c := (aI σ5 (x0 + 4 + x3.toNatClampNeg) 7) ≠ ((-1))) (fun ht hf => ev_cne rfl ht hf) (fun hc11 => ?_) (fun hc11 => ?_)
        · rw [if_pos hc11] at h
          exact TJ_X9_boxesLeftFor_41 xs L N (H_X9_boxesLeftFor_4 N n) hk4 x0 x1 x2 x3 (d4) σ5 q h hG8 hx0
        · rw [if_neg hc11] at h
          refine ev_a (fun he => ev_push rfl he) ?_
          refine ev_a (fun he => ev_goto rfl he) ?_
          exact TJ_X9_boxesLeftFor_42 xs L N (H_X9_boxesLeftFor_4 N n) hk4 x0 x1 x2 x3 1 (d4) σ5 q h hG8 hx0
def F_X9_boxesLeftFor (N : Nat) (x0 : Nat) (x1 : Int32) (σ : aSt) : Option (Int32 × aSt) := H_X9_boxesLeftFor_4 N N x0 x1 0 0 σ
set_option maxRecDepth 20000 in
set_option maxHeartbeats 4000000 in
theorem T_X9_boxesLeftFor (xs : Nat → Int32) (L : Nat) (N : Nat) (x0 : Nat) (x1 : Int32) (σ : aSt) (q : Int32 × aSt) (h : F_X9_boxesLeftFor N x0 x1 σ = some q) (hG : Gr σ) (hx0 : isSale x0) : Cal xs L 79 [.ref x0, .int x1] σ (wI q.1) q.2 ∧ Gr q.2 := by
  have h : (H_X9_boxesLeftFor_4 N N x0 x1 0 0 σ) = some q := h
  show Ev xs L 79 0 [.ref x0, .int x1, aU, aU, aU] [] σ (wI q.1) q.2 ∧ Gr q.2
  refine ev_a (fun he => ev_push rfl he) ?_
  refine ev_a (fun he => ev_istore (ls' := [.ref x0, .int x1, .int 0, aU, aU]) rfl (Nat.le_of_ble_eq_true rfl) rfl he) ?_
  refine ev_a (fun he => ev_push rfl he) ?_
  refine ev_a (fun he => ev_istore (ls' := [.ref x0, .int x1, .int 0, .int 0, aU]) rfl (Nat.le_of_ble_eq_true rfl) rfl he) ?_
  exact TH_X9_boxesLeftFor_4 xs L N N x0 x1 0 0 (aU) σ q h hG hx0
def F_X11_feed (N : Nat) (x1 : Int32) (x2 : Int32) (x3 : Int32) (x4 : Int32) (x5 : Int32) (σ : aSt) : Option (Int32 × aSt) := if ((aI σ 1 0) + 20) ≤ 2000 then oB (F_X8_putFourBytes N x1 σ) fun y2 σ3 => oB (F_X8_putFourBytes N x2 σ3) fun y7 σ8 => oB (F_X8_putFourBytes N x3 σ8) fun y12 σ13 => oB (F_X8_putFourBytes N x4 σ13) fun y17 σ18 => oB (F_X8_putFourBytes N x5 σ18) fun y22 σ23 => some (aI σ23 1 0, σ23) else some ((-1), σ)
set_option maxRecDepth 20000 in
set_option maxHeartbeats 4000000 in
theorem T_X11_feed (xs : Nat → Int32) (L : Nat) (N : Nat) (x1 : Int32) (x2 : Int32) (x3 : Int32) (x4 : Int32) (x5 : Int32) (σ : aSt) (q : Int32 × aSt) (h : F_X11_feed N x1 x2 x3 x4 x5 σ = some q) (hG : Gr σ) : Cal xs L 94 [.ref 0, .int x1, .int x2, .int x3, .int x4, .int x5] σ (wI q.1) q.2 ∧ Gr q.2 := by
  have h : (if ((aI σ 1 0) + 20) ≤ 2000 then oB (F_X8_putFourBytes N x1 σ) fun y2 σ3 => oB (F_X8_putFourBytes N x2 σ3) fun y7 σ8 => oB (F_X8_putFourBytes N x3 σ8) fun y12 σ13 => oB (F_X8_putFourBytes N x4 σ13) fun y17 σ18 => oB (F_X8_putFourBytes N x5 σ18) fun y22 σ23 => some (aI σ23 1 0, σ23) else some ((-1), σ)) = some q := h
  show Ev xs L 94 0 [.ref 0, .int x1, .int x2, .int x3, .int x4, .int x5] [] σ (wI q.1) q.2 ∧ Gr q.2
  refine ev_a (fun he => ev_aload rfl rfl he) ?_
  refine ev_a (fun he => ev_getR rfl (gr_ob (n := 9) hG rfl) (gr_p (a := 0) (k := 0) (b := 1) hG rfl) he) ?_
  refine ev_a (fun he => ev_getI rfl (gr_ob (n := 12) hG rfl) he) ?_
  refine ev_a (fun he => ev_push rfl he) ?_
  refine ev_a (fun he => ev_bin (z := (aI σ 1 0) + 20) rfl rfl he) ?_
  refine ev_a (fun he => ev_push rfl he) ?_
  refine ev_b (c := ((aI σ 1 0) + 20) ≤ 2000) (fun ht hf => ev_cle rfl ht hf) (fun hc1 => ?_) (fun hc1 => ?_)
  · rw [if_pos hc1] at h
    refine ev_a (fun he => ev_aload rfl rfl he) ?_
    refine ev_a (fun he => ev_getR rfl (gr_ob (n := 9) hG rfl) (gr_p (a := 0) (k := 0) (b := 1) hG rfl) he) ?_
    refine ev_a (fun he => ev_iload rfl rfl he) ?_
    obtain ⟨y2, σ3, h4, h⟩ := oB_inv h
    obtain ⟨c5, hG6⟩ := T_X8_putFourBytes xs L N x1 σ (y2, σ3) h4 hG
    refine ev_a (fun he => ev_callV (as := [.int x1]) rfl (gr_ob (n := 12) hG rfl) rfl rfl rfl (Nat.le_of_ble_eq_true rfl) (Nat.le_of_ble_eq_true rfl) c5 he) ?_
    refine ev_a (fun he => ev_aload rfl rfl he) ?_
    refine ev_a (fun he => ev_getR rfl (gr_ob (n := 9) hG6 rfl) (gr_p (a := 0) (k := 0) (b := 1) hG6 rfl) he) ?_
    refine ev_a (fun he => ev_iload rfl rfl he) ?_
    obtain ⟨y7, σ8, h9, h⟩ := oB_inv h
    obtain ⟨c10, hG11⟩ := T_X8_putFourBytes xs L N x2 σ3 (y7, σ8) h9 hG6
    refine ev_a (fun he => ev_callV (as := [.int x2]) rfl (gr_ob (n := 12) hG6 rfl) rfl rfl rfl (Nat.le_of_ble_eq_true rfl) (Nat.le_of_ble_eq_true rfl) c10 he) ?_
    refine ev_a (fun he => ev_aload rfl rfl he) ?_
    refine ev_a (fun he => ev_getR rfl (gr_ob (n := 9) hG11 rfl) (gr_p (a := 0) (k := 0) (b := 1) hG11 rfl) he) ?_
    refine ev_a (fun he => ev_iload rfl rfl he) ?_
    obtain ⟨y12, σ13, h14, h⟩ := oB_inv h
    obtain ⟨c15, hG16⟩ := T_X8_putFourBytes xs L N x3 σ8 (y12, σ13) h14 hG11
    refine ev_a (fun he => ev_callV (as := [.int x3]) rfl (gr_ob (n := 12) hG11 rfl) rfl rfl rfl (Nat.le_of_ble_eq_true rfl) (Nat.le_of_ble_eq_true rfl) c15 he) ?_
    refine ev_a (fun he => ev_aload rfl rfl he) ?_
    refine ev_a (fun he => ev_getR rfl (gr_ob (n := 9) hG16 rfl) (gr_p (a := 0) (k := 0) (b := 1) hG16 rfl) he) ?_
    refine ev_a (fun he => ev_iload rfl rfl he) ?_
    obtain ⟨y17, σ18, h19, h⟩ := oB_inv h
    obtain ⟨c20, hG21⟩ := T_X8_putFourBytes xs L N x4 σ13 (y17, σ18) h19 hG16
    refine ev_a (fun he => ev_callV (as := [.int x4]) rfl (gr_ob (n := 12) hG16 rfl) rfl rfl rfl (Nat.le_of_ble_eq_true rfl) (Nat.le_of_ble_eq_true rfl) c20 he) ?_
    refine ev_a (fun he => ev_aload rfl rfl he) ?_
    refine ev_a (fun he => ev_getR rfl (gr_ob (n := 9) hG21 rfl) (gr_p (a := 0) (k := 0) (b := 1) hG21 rfl) he) ?_
    refine ev_a (fun he => ev_iload rfl rfl he) ?_
    obtain ⟨y22, σ23, h24, h⟩ := oB_inv h
    obtain ⟨c25, hG26⟩ := T_X8_putFourBytes xs L N x5 σ18 (y22, σ23) h24 hG21
    refine ev_a (fun he => ev_callV (as := [.int x5]) rfl (gr_ob (n := 12) hG21 rfl) rfl rfl rfl (Nat.le_of_ble_eq_true rfl) (Nat.le_of_ble_eq_true rfl) c25 he) ?_
    refine ev_a (fun he => ev_aload rfl rfl he) ?_
    refine ev_a (fun he => ev_getR rfl (gr_ob (n := 9) hG26 rfl) (gr_p (a := 0) (k := 0) (b := 1) hG26 rfl) he) ?_
    refine ev_a (fun he => ev_getI rfl (gr_ob (n := 12) hG26 rfl) he) ?_
    cases h
    exact ⟨ev_retI rfl, hG26⟩
  · rw [if_neg hc1] at h
    refine ev_a (fun he => ev_push rfl he) ?_
    cases h
    exact ⟨ev_retI rfl, hG⟩
def J_X11_back_15 (N : Nat) (σ : aSt) : Option (Int32 × aSt) := some ((-1), σ)
set_option maxRecDepth 20000 in
set_option maxHeartbeats 4000000 in
theorem TJ_X11_back_15 (xs : Nat → Int32) (L : Nat) (N : Nat) (d0 : Value) (d1 : Value) (σ : aSt) (q : Int32 × aSt) (h : J_X11_back_15 N  σ = some q) (hG : Gr σ) : Ev xs L 95 15 [d0, d1] [] σ (wI q.1) q.2 ∧ Gr q.2 := by
  have h : (some ((-1), σ)) = some q := h
  refine ev_a (fun he => ev_push rfl he) ?_
  cases h
  exact ⟨ev_retI rfl, hG⟩
def F_X11_back (N : Nat) (x1 : Int32) (σ : aSt) : Option (Int32 × aSt) := if x1 < 0 then J_X11_back_15 N σ else if x1 ≤ (aI σ 1 0) then lt (aWI σ 1 0 ((aI σ 1 0) - x1)) fun σ3 => some (aI σ3 1 0, σ3) else J_X11_back_15 N σ
set_option maxRecDepth 20000 in
set_option maxHeartbeats 4000000 in
theorem T_X11_back (xs : Nat → Int32) (L : Nat) (N : Nat) (x1 : Int32) (σ : aSt) (q : Int32 × aSt) (h : F_X11_back N x1 σ = some q) (hG : Gr σ) : Cal xs L 95 [.ref 0, .int x1] σ (wI q.1) q.2 ∧ Gr q.2 := by
  have h : (if x1 < 0 then J_X11_back_15 N σ else if x1 ≤ (aI σ 1 0) then lt (aWI σ 1 0 ((aI σ 1 0) - x1)) fun σ3 => some (aI σ3 1 0, σ3) else J_X11_back_15 N σ) = some q := h
  show Ev xs L 95 0 [.ref 0, .int x1] [] σ (wI q.1) q.2 ∧ Gr q.2
  refine ev_a (fun he => ev_iload rfl rfl he) ?_
  refine ev_b (c := x1 < 0) (fun ht hf => ev_iflt rfl ht hf) (fun hc1 => ?_) (fun hc1 => ?_)
  · rw [if_pos hc1] at h
    exact TJ_X11_back_15 xs L N (.ref 0) (.int x1) σ q h hG
  · rw [if_neg hc1] at h
    refine ev_a (fun he => ev_iload rfl rfl he) ?_
    refine ev_a (fun he => ev_aload rfl rfl he) ?_
    refine ev_a (fun he => ev_getR rfl (gr_ob (n := 9) hG rfl) (gr_p (a := 0) (k := 0) (b := 1) hG rfl) he) ?_
    refine ev_a (fun he => ev_getI rfl (gr_ob (n := 12) hG rfl) he) ?_
    refine ev_b (c := x1 ≤ (aI σ 1 0)) (fun ht hf => ev_cle rfl ht hf) (fun hc2 => ?_) (fun hc2 => ?_)
    · rw [if_pos hc2] at h
      refine ev_a (fun he => ev_aload rfl rfl he) ?_
      refine ev_a (fun he => ev_getR rfl (gr_ob (n := 9) hG rfl) (gr_p (a := 0) (k := 0) (b := 1) hG rfl) he) ?_
      refine ev_a (fun he => ev_dupR rfl he) ?_
      refine ev_a (fun he => ev_getI rfl (gr_ob (n := 12) hG rfl) he) ?_
      refine ev_a (fun he => ev_iload rfl rfl he) ?_
      refine ev_a (fun he => ev_bin (z := (aI σ 1 0) - x1) rfl rfl he) ?_
      obtain ⟨σ3, e4, h⟩ := lt_inv h
      have hG5 : Gr σ3 := gr_wi e4 hG
      refine ev_a (fun he => ev_putI rfl (gr_ob (n := 12) hG rfl) e4 he) ?_
      refine ev_a (fun he => ev_aload rfl rfl he) ?_
      refine ev_a (fun he => ev_getR rfl (gr_ob (n := 9) hG5 rfl) (gr_p (a := 0) (k := 0) (b := 1) hG5 rfl) he) ?_
      refine ev_a (fun he => ev_getI rfl (gr_ob (n := 12) hG5 rfl) he) ?_
      cases h
      exact ⟨ev_retI rfl, hG5⟩
    · rw [if_neg hc2] at h
      exact TJ_X11_back_15 xs L N (.ref 0) (.int x1) σ q h hG
def J_X11_read_61 (N : Nat) (x2 : Int32) (σ : aSt) : Option (Int32 × aSt) := some (x2, σ)
set_option maxRecDepth 20000 in
set_option maxHeartbeats 4000000 in
theorem TJ_X11_read_61 (xs : Nat → Int32) (L : Nat) (N : Nat) (x2 : Int32) (d0 : Value) (d1 : Value) (σ : aSt) (q : Int32 × aSt) (h : J_X11_read_61 N x2 σ = some q) (hG : Gr σ) : Ev xs L 96 61 [d0, d1, .int x2] [] σ (wI q.1) q.2 ∧ Gr q.2 := by
  have h : (some (x2, σ)) = some q := h
  refine ev_a (fun he => ev_iload rfl rfl he) ?_
  cases h
  exact ⟨ev_retI rfl, hG⟩
def J_X11_read_19 (N : Nat) (x1 : Int32) (σ : aSt) : Option (Int32 × aSt) := oB (F_X8_parse N σ) fun y1 σ2 => lt (aWI σ2 1 0 0) fun σ6 => if y1 ≠ 0 then J_X11_read_61 N y1 σ6 else oB (F_X2_exchangeText N x1 (aTxt σ6 1 2) σ6) fun y10 σ11 => lt (aWP σ11 1 2 (some y10)) fun σ15 => J_X11_read_61 N y1 σ15
set_option maxRecDepth 20000 in
set_option maxHeartbeats 4000000 in
theorem TJ_X11_read_19 (xs : Nat → Int32) (L : Nat) (N : Nat) (x1 : Int32) (d2 : Value) (σ : aSt) (q : Int32 × aSt) (h : J_X11_read_19 N x1 σ = some q) (hG : Gr σ) : Ev xs L 96 19 [.ref 0, .int x1, d2] [] σ (wI q.1) q.2 ∧ Gr q.2 := by
  have h : (oB (F_X8_parse N σ) fun y1 σ2 => lt (aWI σ2 1 0 0) fun σ6 => if y1 ≠ 0 then J_X11_read_61 N y1 σ6 else oB (F_X2_exchangeText N x1 (aTxt σ6 1 2) σ6) fun y10 σ11 => lt (aWP σ11 1 2 (some y10)) fun σ15 => J_X11_read_61 N y1 σ15) = some q := h
  refine ev_a (fun he => ev_aload rfl rfl he) ?_
  refine ev_a (fun he => ev_getR rfl (gr_ob (n := 9) hG rfl) (gr_p (a := 0) (k := 0) (b := 1) hG rfl) he) ?_
  obtain ⟨y1, σ2, h3, h⟩ := oB_inv h
  obtain ⟨c4, hG5⟩ := T_X8_parse xs L N σ (y1, σ2) h3 hG
  refine ev_a (fun he => ev_callV (as := []) rfl (gr_ob (n := 12) hG rfl) rfl rfl rfl (Nat.le_of_ble_eq_true rfl) (Nat.le_of_ble_eq_true rfl) c4 he) ?_
  refine ev_a (fun he => ev_istore (ls' := [.ref 0, .int x1, .int y1]) rfl (Nat.le_of_ble_eq_true rfl) rfl he) ?_
  refine ev_a (fun he => ev_aload rfl rfl he) ?_
  refine ev_a (fun he => ev_getR rfl (gr_ob (n := 9) hG5 rfl) (gr_p (a := 0) (k := 0) (b := 1) hG5 rfl) he) ?_
  refine ev_a (fun he => ev_push rfl he) ?_
  obtain ⟨σ6, e7, h⟩ := lt_inv h
  have hG8 : Gr σ6 := gr_wi e7 hG5
  refine ev_a (fun he => ev_putI rfl (gr_ob (n := 12) hG5 rfl) e7 he) ?_
  refine ev_a (fun he => ev_iload rfl rfl he) ?_
  refine ev_b (c := y1 ≠ 0) (fun ht hf => ev_ifne rfl ht hf) (fun hc9 => ?_) (fun hc9 => ?_)
  · rw [if_pos hc9] at h
    exact TJ_X11_read_61 xs L N y1 (.ref 0) (.int x1) σ6 q h hG8
  · rw [if_neg hc9] at h
    refine ev_a (fun he => ev_aload rfl rfl he) ?_
    refine ev_a (fun he => ev_getR rfl (gr_ob (n := 9) hG8 rfl) (gr_p (a := 0) (k := 0) (b := 1) hG8 rfl) he) ?_
    refine ev_a (fun he => ev_aload rfl rfl he) ?_
    refine ev_a (fun he => ev_getR rfl (gr_ob (n := 9) hG8 rfl) (gr_p (a := 0) (k := 1) (b := 11) hG8 rfl) he) ?_
    refine ev_a (fun he => ev_iload rfl rfl he) ?_
    refine ev_a (fun he => ev_aload rfl rfl he) ?_
    refine ev_a (fun he => ev_getR rfl (gr_ob (n := 9) hG8 rfl) (gr_p (a := 0) (k := 0) (b := 1) hG8 rfl) he) ?_
    refine ev_a (fun he => ev_getR rfl (gr_ob (n := 12) hG8 rfl) (gr_tx (a := 1) (k := 2) hG8 (by decide)).1 he) ?_
    obtain ⟨y10, σ11, h12, h⟩ := oB_inv h
    obtain ⟨c13, hG14⟩ := T_X2_exchangeText xs L N x1 (aTxt σ6 1 2) σ6 (y10, σ11) h12 hG8 (gr_tx (a := 1) (k := 2) hG8 (by decide)).2
    refine ev_a (fun he => ev_callV (as := [.int x1, .ref (aTxt σ6 1 2)]) rfl (gr_ob (n := 7) hG8 rfl) rfl rfl rfl (Nat.le_of_ble_eq_true rfl) (Nat.le_of_ble_eq_true rfl) c13 he) ?_
    obtain ⟨σ15, e16, h⟩ := lt_inv h
    have hG17 : Gr σ15 := gr_wp e16 (by decide) (txr_X2_exchangeText xs L N x1 (aTxt σ6 1 2) σ6 (y10, σ11) h12 hG8 (gr_tx (a := 1) (k := 2) hG8 (by decide)).2) rfl hG14
    refine ev_a (fun he => ev_putR rfl (gr_ob (n := 12) hG14 rfl) e16 he) ?_
    exact TJ_X11_read_61 xs L N y1 (.ref 0) (.int x1) σ15 q h hG17
def F_X11_read (N : Nat) (x1 : Int32) (σ : aSt) : Option (Int32 × aSt) := if x1 = ((-1)) then J_X11_read_19 N x1 σ else oB (F_X2_hasBuyer N x1 σ) fun y19 σ20 => if y19 ≠ 0 then J_X11_read_19 N x1 σ20 else some ((-2), σ20)
set_option maxRecDepth 20000 in
set_option maxHeartbeats 4000000 in
theorem T_X11_read (xs : Nat → Int32) (L : Nat) (N : Nat) (x1 : Int32) (σ : aSt) (q : Int32 × aSt) (h : F_X11_read N x1 σ = some q) (hG : Gr σ) : Cal xs L 96 [.ref 0, .int x1] σ (wI q.1) q.2 ∧ Gr q.2 := by
  have h : (if x1 = ((-1)) then J_X11_read_19 N x1 σ else oB (F_X2_hasBuyer N x1 σ) fun y19 σ20 => if y19 ≠ 0 then J_X11_read_19 N x1 σ20 else some ((-2), σ20)) = some q := h
  show Ev xs L 96 0 [.ref 0, .int x1, aU] [] σ (wI q.1) q.2 ∧ Gr q.2
  refine ev_a (fun he => ev_iload rfl rfl he) ?_
  refine ev_a (fun he => ev_push rfl he) ?_
  refine ev_b (c := x1 = ((-1))) (fun ht hf => ev_ceq rfl ht hf) (fun hc18 => ?_) (fun hc18 => ?_)
  · rw [if_pos hc18] at h
    exact TJ_X11_read_19 xs L N x1 (aU) σ q h hG
  · rw [if_neg hc18] at h
    refine ev_a (fun he => ev_aload rfl rfl he) ?_
    refine ev_a (fun he => ev_getR rfl (gr_ob (n := 9) hG rfl) (gr_p (a := 0) (k := 1) (b := 11) hG rfl) he) ?_
    refine ev_a (fun he => ev_iload rfl rfl he) ?_
    obtain ⟨y19, σ20, h21, h⟩ := oB_inv h
    obtain ⟨c22, hG23⟩ := T_X2_hasBuyer xs L N x1 σ (y19, σ20) h21 hG
    refine ev_a (fun he => ev_callV (as := [.int x1]) rfl (gr_ob (n := 7) hG rfl) rfl rfl rfl (Nat.le_of_ble_eq_true rfl) (Nat.le_of_ble_eq_true rfl) c22 he) ?_
    refine ev_b (c := y19 ≠ 0) (fun ht hf => ev_ifne rfl ht hf) (fun hc24 => ?_) (fun hc24 => ?_)
    · rw [if_pos hc24] at h
      exact TJ_X11_read_19 xs L N x1 (aU) σ20 q h hG23
    · rw [if_neg hc24] at h
      refine ev_a (fun he => ev_push rfl he) ?_
      cases h
      exact ⟨ev_retI rfl, hG23⟩
def F_X11_place (N : Nat) (σ : aSt) : Option (Int32 × aSt) := some (aI σ 1 1, σ)
set_option maxRecDepth 20000 in
set_option maxHeartbeats 4000000 in
theorem T_X11_place (xs : Nat → Int32) (L : Nat) (N : Nat) (σ : aSt) (q : Int32 × aSt) (h : F_X11_place N σ = some q) (hG : Gr σ) : Cal xs L 97 [.ref 0] σ (wI q.1) q.2 ∧ Gr q.2 := by
  have h : (some (aI σ 1 1, σ)) = some q := h
  show Ev xs L 97 0 [.ref 0] [] σ (wI q.1) q.2 ∧ Gr q.2
  refine ev_a (fun he => ev_aload rfl rfl he) ?_
  refine ev_a (fun he => ev_getR rfl (gr_ob (n := 9) hG rfl) (gr_p (a := 0) (k := 0) (b := 1) hG rfl) he) ?_
  refine ev_a (fun he => ev_getI rfl (gr_ob (n := 12) hG rfl) he) ?_
  cases h
  exact ⟨ev_retI rfl, hG⟩
def J_X11_isBelow_14 (N : Nat) (s0 : Int32) (σ : aSt) : Option (Int32 × aSt) := cO (vp_nar .boolean s0 = s0) (some (s0, σ))
set_option maxRecDepth 20000 in
set_option maxHeartbeats 4000000 in
theorem TJ_X11_isBelow_14 (xs : Nat → Int32) (L : Nat) (N : Nat) (s0 : Int32) (d0 : Value) (d1 : Value) (σ : aSt) (q : Int32 × aSt) (h : J_X11_isBelow_14 N s0 σ = some q) (hG : Gr σ) : Ev xs L 115 14 [d0, d1] [.int s0] σ (wI q.1) q.2 ∧ Gr q.2 := by
  have h : (cO (vp_nar .boolean s0 = s0) (some (s0, σ))) = some q := h
  obtain ⟨hc1, h⟩ := cO_inv h
  cases h
  exact ⟨ev_retZ rfl hc1, hG⟩
def J_X11_isBelow_13 (N : Nat) (σ : aSt) : Option (Int32 × aSt) := J_X11_isBelow_14 N 0 σ
set_option maxRecDepth 20000 in
set_option maxHeartbeats 4000000 in
theorem TJ_X11_isBelow_13 (xs : Nat → Int32) (L : Nat) (N : Nat) (d0 : Value) (d1 : Value) (σ : aSt) (q : Int32 × aSt) (h : J_X11_isBelow_13 N  σ = some q) (hG : Gr σ) : Ev xs L 115 13 [d0, d1] [] σ (wI q.1) q.2 ∧ Gr q.2 := by
  have h : (J_X11_isBelow_14 N 0 σ) = some q := h
  refine ev_a (fun he => ev_push rfl he) ?_
  exact TJ_X11_isBelow_14 xs L N 0 (d0) (d1) σ q h hG
def F_X11_isBelow (N : Nat) (x0 : Int32) (x1 : Int32) (σ : aSt) : Option (Int32 × aSt) := if x0 < 0 then J_X11_isBelow_13 N σ else if x1 ≤ x0 then J_X11_isBelow_13 N σ else J_X11_isBelow_14 N 1 σ
set_option maxRecDepth 20000 in
set_option maxHeartbeats 4000000 in
theorem T_X11_isBelow (xs : Nat → Int32) (L : Nat) (N : Nat) (x0 : Int32) (x1 : Int32) (σ : aSt) (q : Int32 × aSt) (h : F_X11_isBelow N x0 x1 σ = some q) (hG : Gr σ) : Cal xs L 115 [.int x0, .int x1] σ (wI q.1) q.2 ∧ Gr q.2 := by
  have h : (if x0 < 0 then J_X11_isBelow_13 N σ else if x1 ≤ x0 then J_X11_isBelow_13 N σ else J_X11_isBelow_14 N 1 σ) = some q := h
  show Ev xs L 115 0 [.int x0, .int x1] [] σ (wI q.1) q.2 ∧ Gr q.2
  refine ev_a (fun he => ev_iload rfl rfl he) ?_
  refine ev_b (c := x0 < 0) (fun ht hf => ev_iflt rfl ht hf) (fun hc2 => ?_) (fun hc2 => ?_)
  · rw [if_pos hc2] at h
    exact TJ_X11_isBelow_13 xs L N (.int x0) (.int x1) σ q h hG
  · rw [if_neg hc2] at h
    refine ev_a (fun he => ev_iload rfl rfl he) ?_
    refine ev_a (fun he => ev_iload rfl rfl he) ?_
    refine ev_b (c := x1 ≤ x0) (fun ht hf => ev_cge rfl ht hf) (fun hc3 => ?_) (fun hc3 => ?_)
    · rw [if_pos hc3] at h
      exact TJ_X11_isBelow_13 xs L N (.int x0) (.int x1) σ q h hG
    · rw [if_neg hc3] at h
      refine ev_a (fun he => ev_push rfl he) ?_
      refine ev_a (fun he => ev_goto rfl he) ?_
      exact TJ_X11_isBelow_14 xs L N 1 (.int x0) (.int x1) σ q h hG
