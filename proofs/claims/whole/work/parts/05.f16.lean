def J_X9_noteLasts_37 (N : Nat) (k2 : Nat → Int32 → aSt → Option (Unit × aSt)) (x0 : Nat) (x1 : Int32) (σ : aSt) : Option (Unit × aSt) := k2 x0 (x1 + 1) σ
set_option maxRecDepth 20000 in
set_option maxHeartbeats 4000000 in
theorem TJ_X9_noteLasts_37 (xs : Nat → Int32) (L : Nat) (N : Nat) (k2 : Nat → Int32 → aSt → Option (Unit × aSt)) (hk2 : ∀ (x0 : Nat) (x1 : Int32) (d2 : Value) (σ : aSt) (q : Unit × aSt), k2 x0 x1 σ = some q → Gr σ → isSale x0 → Ev xs L 70 2 [.ref x0, .int x1, d2] [] σ (wV q.1) q.2 ∧ Gr q.2) (x0 : Nat) (x1 : Int32) (d2 : Value) (σ : aSt) (q : Unit × aSt) (h : J_X9_noteLasts_37 N k2 x0 x1 σ = some q) (hG : Gr σ) (hx0 : isSale x0) : Ev xs L 70 37 [.ref x0, .int x1, d2] [] σ (wV q.1) q.2 ∧ Gr q.2 := by
  have h : (k2 x0 (x1 + 1) σ) = some q := h
  refine ev_a (fun he => ev_iinc (ls' := [.ref x0, .int (x1 + 1), d2]) rfl rfl rfl (Nat.le_of_ble_eq_true rfl) rfl he) ?_
  refine ev_a (fun he => ev_goto rfl he) ?_
  exact hk2 x0 (x1 + 1) (d2) σ q h hG hx0
def H_X9_noteLasts_2 (N : Nat) : Nat → Nat → Int32 → aSt → Option (Unit × aSt)
  | 0, _, _, _ => none
  | n + 1, x0, x1, σ => if 6 ≤ x1 then some ((), σ) else oB (F_X9_soldLast N x0 x1 σ) fun y2 σ3 => if y2 = ((-1)) then J_X9_noteLasts_37 N (H_X9_noteLasts_2 N n) x0 x1 σ3 else cO (¬ (y2 < 0 ∨ 24 ≤ y2.toNatClampNeg)) (cO (¬ (x1 < 0 ∨ 6 ≤ x1.toNatClampNeg)) (lt (aWI σ3 14 x1.toNatClampNeg (aI σ3 (x0 + 4 + y2.toNatClampNeg) 1)) fun σ10 => J_X9_noteLasts_37 N (H_X9_noteLasts_2 N n) x0 x1 σ10))
set_option maxRecDepth 20000 in
set_option maxHeartbeats 4000000 in
theorem TH_X9_noteLasts_2 (xs : Nat → Int32) (L : Nat) (N : Nat) : ∀ (n : Nat) (x0 : Nat) (x1 : Int32) (d2 : Value) (σ : aSt) (q : Unit × aSt), H_X9_noteLasts_2 N n x0 x1 σ = some q → Gr σ → isSale x0 → Ev xs L 70 2 [.ref x0, .int x1, d2] [] σ (wV q.1) q.2 ∧ Gr q.2 := by
  intro n
  induction n with
  | zero =>
    intro x0 x1 d2 σ q h hG hx0
    exact absurd (show (none : Option (Unit × aSt)) = some q from h) (by simp)
  | succ n ih =>
    intro x0 x1 d2 σ q h hG hx0
    have hk2 : ∀ (x0 : Nat) (x1 : Int32) (d2 : Value) (σ : aSt) (q : Unit × aSt), H_X9_noteLasts_2 N n x0 x1 σ = some q → Gr σ → isSale x0 → Ev xs L 70 2 [.ref x0, .int x1, d2] [] σ (wV q.1) q.2 ∧ Gr q.2 := ih
    have h : (if 6 ≤ x1 then some ((), σ) else oB (F_X9_soldLast N x0 x1 σ) fun y2 σ3 => if y2 = ((-1)) then J_X9_noteLasts_37 N (H_X9_noteLasts_2 N n) x0 x1 σ3 else cO (¬ (y2 < 0 ∨ 24 ≤ y2.toNatClampNeg)) (cO (¬ (x1 < 0 ∨ 6 ≤ x1.toNatClampNeg)) (lt (aWI σ3 14 x1.toNatClampNeg (aI σ3 (x0 + 4 + y2.toNatClampNeg) 1)) fun σ10 => J_X9_noteLasts_37 N (H_X9_noteLasts_2 N n) x0 x1 σ10))) = some q := h
    refine ev_a (fun he => ev_iload rfl rfl he) ?_
    refine ev_a (fun he => ev_push rfl he) ?_
    refine ev_b (c := 6 ≤ x1) (fun ht hf => ev_cge rfl ht hf) (fun hc1 => ?_) (fun hc1 => ?_)
    · rw [if_pos hc1] at h
      cases h
      exact ⟨ev_retV rfl, hG⟩
    · rw [if_neg hc1] at h
      refine ev_a (fun he => ev_aload rfl rfl he) ?_
      refine ev_a (fun he => ev_iload rfl rfl he) ?_
      obtain ⟨y2, σ3, h4, h⟩ := oB_inv h
      obtain ⟨c5, hG6⟩ := T_X9_soldLast xs L N x0 x1 σ (y2, σ3) h4 hG hx0
      refine ev_a (fun he => ev_callV (as := [.int x1]) rfl (gr_ob (n := 9) hG (sh_Sale0 hx0)) rfl rfl rfl (Nat.le_of_ble_eq_true rfl) (Nat.le_of_ble_eq_true rfl) c5 he) ?_
      refine ev_a (fun he => ev_istore (ls' := [.ref x0, .int x1, .int y2]) rfl (Nat.le_of_ble_eq_true rfl) rfl he) ?_
      refine ev_a (fun he => ev_iload rfl rfl he) ?_
      refine ev_a (fun he => ev_push rfl he) ?_
      refine ev_b (c := y2 = ((-1))) (fun ht hf => ev_ceq rfl ht hf) (fun hc7 => ?_) (fun hc7 => ?_)
      · rw [if_pos hc7] at h
        exact TJ_X9_noteLasts_37 xs L N (H_X9_noteLasts_2 N n) hk2 x0 x1 (.int y2) σ3 q h hG6 hx0
      · rw [if_neg hc7] at h
        refine ev_a (fun he => ev_aload rfl rfl he) ?_
        refine ev_a (fun he => ev_getR rfl (gr_ob (n := 9) hG6 (sh_Sale0 hx0)) (gr_p hG6 (gf_Sale0 hx0)) he) ?_
        refine ev_a (fun he => ev_getR rfl (gr_ob (n := 7) hG6 rfl) (gr_p (a := 11) (k := 4) (b := 14) hG6 rfl) he) ?_
        refine ev_a (fun he => ev_iload rfl rfl he) ?_
        refine ev_a (fun he => ev_aload rfl rfl he) ?_
        refine ev_a (fun he => ev_getR rfl (gr_ob (n := 9) hG6 (sh_Sale0 hx0)) (gr_p hG6 (gf_Sale1 hx0)) he) ?_
        refine ev_a (fun he => ev_iload rfl rfl he) ?_
        obtain ⟨hc8, h⟩ := cO_inv h
        refine ev_a (fun he => ev_aldR rfl (gr_ar hG6 (sh_Sale1 hx0)) (by decide) hc8 (gr_p hG6 (el_Ou hx0 hc8).1) he) ?_
        refine ev_a (fun he => ev_getI rfl (gr_ob (n := 8) hG6 (sh_Ou0 (el_Ou hx0 hc8).2)) he) ?_
        obtain ⟨hc9, h⟩ := cO_inv h
        obtain ⟨σ10, e11, h⟩ := lt_inv h
        have hG12 : Gr σ10 := gr_wi e11 hG6
        refine ev_a (fun he => ev_astI (k := x1.toNatClampNeg) rfl (gr_ar hG6 rfl) hc9 rfl rfl e11 he) ?_
        exact TJ_X9_noteLasts_37 xs L N (H_X9_noteLasts_2 N n) hk2 x0 x1 (.int y2) σ10 q h hG12 hx0
def F_X9_noteLasts (N : Nat) (x0 : Nat) (σ : aSt) : Option (Unit × aSt) := H_X9_noteLasts_2 N N x0 0 σ
set_option maxRecDepth 20000 in
set_option maxHeartbeats 4000000 in
theorem T_X9_noteLasts (xs : Nat → Int32) (L : Nat) (N : Nat) (x0 : Nat) (σ : aSt) (q : Unit × aSt) (h : F_X9_noteLasts N x0 σ = some q) (hG : Gr σ) (hx0 : isSale x0) : Cal xs L 70 [.ref x0] σ (wV q.1) q.2 ∧ Gr q.2 := by
  have h : (H_X9_noteLasts_2 N N x0 0 σ) = some q := h
  show Ev xs L 70 0 [.ref x0, aU, aU] [] σ (wV q.1) q.2 ∧ Gr q.2
  refine ev_a (fun he => ev_push rfl he) ?_
  refine ev_a (fun he => ev_istore (ls' := [.ref x0, .int 0, aU]) rfl (Nat.le_of_ble_eq_true rfl) rfl he) ?_
  exact TH_X9_noteLasts_2 xs L N N x0 0 (aU) σ q h hG hx0
def J_X9_takingsOf_45 (N : Nat) (k4 : Nat → Int32 → Int32 → Int32 → aSt → Option (Int32 × aSt)) (x0 : Nat) (x1 : Int32) (x3 : Int32) (s0 : Int32) (s1 : Int32) (σ : aSt) : Option (Int32 × aSt) := k4 x0 x1 (s0 + s1) (x3 + 1) σ
set_option maxRecDepth 20000 in
set_option maxHeartbeats 4000000 in
theorem TJ_X9_takingsOf_45 (xs : Nat → Int32) (L : Nat) (N : Nat) (k4 : Nat → Int32 → Int32 → Int32 → aSt → Option (Int32 × aSt)) (hk4 : ∀ (x0 : Nat) (x1 : Int32) (x2 : Int32) (x3 : Int32) (σ : aSt) (q : Int32 × aSt), k4 x0 x1 x2 x3 σ = some q → Gr σ → isSale x0 → Ev xs L 73 4 [.ref x0, .int x1, .int x2, .int x3] [] σ (wI q.1) q.2 ∧ Gr q.2) (x0 : Nat) (x1 : Int32) (x3 : Int32) (s0 : Int32) (s1 : Int32) (d2 : Value) (σ : aSt) (q : Int32 × aSt) (h : J_X9_takingsOf_45 N k4 x0 x1 x3 s0 s1 σ = some q) (hG : Gr σ) (hx0 : isSale x0) : Ev xs L 73 45 [.ref x0, .int x1, d2, .int x3] [.int s1, .int s0] σ (wI q.1) q.2 ∧ Gr q.2 := by
  have h : (k4 x0 x1 (s0 + s1) (x3 + 1) σ) = some q := h
  refine ev_a (fun he => ev_bin (z := s0 + s1) rfl rfl he) ?_
  refine ev_a (fun he => ev_istore (ls' := [.ref x0, .int x1, .int (s0 + s1), .int x3]) rfl (Nat.le_of_ble_eq_true rfl) rfl he) ?_
  refine ev_a (fun he => ev_iinc (ls' := [.ref x0, .int x1, .int (s0 + s1), .int (x3 + 1)]) rfl rfl rfl (Nat.le_of_ble_eq_true rfl) rfl he) ?_
  refine ev_a (fun he => ev_goto rfl he) ?_
  exact hk4 x0 x1 (s0 + s1) (x3 + 1) σ q h hG hx0
def H_X9_takingsOf_4 (N : Nat) : Nat → Nat → Int32 → Int32 → Int32 → aSt → Option (Int32 × aSt)
  | 0, _, _, _, _, _ => none
  | n + 1, x0, x1, x2, x3, σ => if (aI σ 11 1) ≤ x3 then some (x2, σ) else cO (¬ (x3 < 0 ∨ 24 ≤ x3.toNatClampNeg)) (if (aI σ (23 + x3.toNatClampNeg) 0) ≠ x1 then J_X9_takingsOf_45 N (H_X9_takingsOf_4 N n) x0 x1 x3 x2 0 σ else cO (¬ (x3 < 0 ∨ 24 ≤ x3.toNatClampNeg)) (J_X9_takingsOf_45 N (H_X9_takingsOf_4 N n) x0 x1 x3 x2 (aI σ (x0 + 4 + x3.toNatClampNeg) 6) σ))
set_option maxRecDepth 20000 in
set_option maxHeartbeats 4000000 in
theorem TH_X9_takingsOf_4 (xs : Nat → Int32) (L : Nat) (N : Nat) : ∀ (n : Nat) (x0 : Nat) (x1 : Int32) (x2 : Int32) (x3 : Int32) (σ : aSt) (q : Int32 × aSt), H_X9_takingsOf_4 N n x0 x1 x2 x3 σ = some q → Gr σ → isSale x0 → Ev xs L 73 4 [.ref x0, .int x1, .int x2, .int x3] [] σ (wI q.1) q.2 ∧ Gr q.2 := by
  intro n
  induction n with
  | zero =>
    intro x0 x1 x2 x3 σ q h hG hx0
    exact absurd (show (none : Option (Int32 × aSt)) = some q from h) (by simp)
  | succ n ih =>
    intro x0 x1 x2 x3 σ q h hG hx0
    have hk4 : ∀ (x0 : Nat) (x1 : Int32) (x2 : Int32) (x3 : Int32) (σ : aSt) (q : Int32 × aSt), H_X9_takingsOf_4 N n x0 x1 x2 x3 σ = some q → Gr σ → isSale x0 → Ev xs L 73 4 [.ref x0, .int x1, .int x2, .int x3] [] σ (wI q.1) q.2 ∧ Gr q.2 := ih
    have h : (if (aI σ 11 1) ≤ x3 then some (x2, σ) else cO (¬ (x3 < 0 ∨ 24 ≤ x3.toNatClampNeg)) (if (aI σ (23 + x3.toNatClampNeg) 0) ≠ x1 then J_X9_takingsOf_45 N (H_X9_takingsOf_4 N n) x0 x1 x3 x2 0 σ else cO (¬ (x3 < 0 ∨ 24 ≤ x3.toNatClampNeg)) (J_X9_takingsOf_45 N (H_X9_takingsOf_4 N n) x0 x1 x3 x2 (aI σ (x0 + 4 + x3.toNatClampNeg) 6) σ))) = some q := h
    refine ev_a (fun he => ev_iload rfl rfl he) ?_
    refine ev_a (fun he => ev_aload rfl rfl he) ?_
    refine ev_a (fun he => ev_getR rfl (gr_ob (n := 9) hG (sh_Sale0 hx0)) (gr_p hG (gf_Sale0 hx0)) he) ?_
    refine ev_a (fun he => ev_getI rfl (gr_ob (n := 7) hG rfl) he) ?_
    refine ev_b (c := (aI σ 11 1) ≤ x3) (fun ht hf => ev_cge rfl ht hf) (fun hc1 => ?_) (fun hc1 => ?_)
    · rw [if_pos hc1] at h
      refine ev_a (fun he => ev_iload rfl rfl he) ?_
      cases h
      exact ⟨ev_retI rfl, hG⟩
    · rw [if_neg hc1] at h
      refine ev_a (fun he => ev_iload rfl rfl he) ?_
      refine ev_a (fun he => ev_aload rfl rfl he) ?_
      refine ev_a (fun he => ev_getR rfl (gr_ob (n := 9) hG (sh_Sale0 hx0)) (gr_p hG (gf_Sale0 hx0)) he) ?_
      refine ev_a (fun he => ev_getR rfl (gr_ob (n := 7) hG rfl) (gr_p (a := 11) (k := 0) (b := 12) hG rfl) he) ?_
      refine ev_a (fun he => ev_iload rfl rfl he) ?_
      obtain ⟨hc2, h⟩ := cO_inv h
      refine ev_a (fun he => ev_aldR rfl (gr_ar hG rfl) (by decide) hc2 (gr_p hG (el_Lo hc2).1) he) ?_
      refine ev_a (fun he => ev_getI rfl (gr_ob (n := 5) hG (sh_Lo0 (el_Lo hc2).2)) he) ?_
      refine ev_a (fun he => ev_iload rfl rfl he) ?_
      refine ev_b (c := (aI σ (23 + x3.toNatClampNeg) 0) ≠ x1) (fun ht hf => ev_cne rfl ht hf) (fun hc3 => ?_) (fun hc3 => ?_)
      · rw [if_pos hc3] at h
        refine ev_a (fun he => ev_push rfl he) ?_
        exact TJ_X9_takingsOf_45 xs L N (H_X9_takingsOf_4 N n) hk4 x0 x1 x3 x2 0 (.int x2) σ q h hG hx0
      · rw [if_neg hc3] at h
        refine ev_a (fun he => ev_aload rfl rfl he) ?_
        refine ev_a (fun he => ev_getR rfl (gr_ob (n := 9) hG (sh_Sale0 hx0)) (gr_p hG (gf_Sale1 hx0)) he) ?_
        refine ev_a (fun he => ev_iload rfl rfl he) ?_
        obtain ⟨hc4, h⟩ := cO_inv h
        refine ev_a (fun he => ev_aldR rfl (gr_ar hG (sh_Sale1 hx0)) (by decide) hc4 (gr_p hG (el_Ou hx0 hc4).1) he) ?_
        refine ev_a (fun he => ev_getI rfl (gr_ob (n := 8) hG (sh_Ou0 (el_Ou hx0 hc4).2)) he) ?_
        refine ev_a (fun he => ev_goto rfl he) ?_
        exact TJ_X9_takingsOf_45 xs L N (H_X9_takingsOf_4 N n) hk4 x0 x1 x3 x2 (aI σ (x0 + 4 + x3.toNatClampNeg) 6) (.int x2) σ q h hG hx0
def F_X9_takingsOf (N : Nat) (x0 : Nat) (x1 : Int32) (σ : aSt) : Option (Int32 × aSt) := H_X9_takingsOf_4 N N x0 x1 0 0 σ
set_option maxRecDepth 20000 in
set_option maxHeartbeats 4000000 in
theorem T_X9_takingsOf (xs : Nat → Int32) (L : Nat) (N : Nat) (x0 : Nat) (x1 : Int32) (σ : aSt) (q : Int32 × aSt) (h : F_X9_takingsOf N x0 x1 σ = some q) (hG : Gr σ) (hx0 : isSale x0) : Cal xs L 73 [.ref x0, .int x1] σ (wI q.1) q.2 ∧ Gr q.2 := by
  have h : (H_X9_takingsOf_4 N N x0 x1 0 0 σ) = some q := h
  show Ev xs L 73 0 [.ref x0, .int x1, aU, aU] [] σ (wI q.1) q.2 ∧ Gr q.2
  refine ev_a (fun he => ev_push rfl he) ?_
  refine ev_a (fun he => ev_istore (ls' := [.ref x0, .int x1, .int 0, aU]) rfl (Nat.le_of_ble_eq_true rfl) rfl he) ?_
  refine ev_a (fun he => ev_push rfl he) ?_
  refine ev_a (fun he => ev_istore (ls' := [.ref x0, .int x1, .int 0, .int 0]) rfl (Nat.le_of_ble_eq_true rfl) rfl he) ?_
  exact TH_X9_takingsOf_4 xs L N N x0 x1 0 0 σ q h hG hx0
def H_X9_takingsOfAll_4 (N : Nat) : Nat → Nat → Int32 → Int32 → aSt → Option (Int32 × aSt)
  | 0, _, _, _, _ => none
  | n + 1, x0, x1, x2, σ => if (aI σ 11 1) ≤ x2 then some (x1, σ) else cO (¬ (x2 < 0 ∨ 24 ≤ x2.toNatClampNeg)) ((H_X9_takingsOfAll_4 N n) x0 (x1 + (aI σ (x0 + 4 + x2.toNatClampNeg) 6)) (x2 + 1) σ)
set_option maxRecDepth 20000 in
set_option maxHeartbeats 4000000 in
theorem TH_X9_takingsOfAll_4 (xs : Nat → Int32) (L : Nat) (N : Nat) : ∀ (n : Nat) (x0 : Nat) (x1 : Int32) (x2 : Int32) (σ : aSt) (q : Int32 × aSt), H_X9_takingsOfAll_4 N n x0 x1 x2 σ = some q → Gr σ → isSale x0 → Ev xs L 74 4 [.ref x0, .int x1, .int x2] [] σ (wI q.1) q.2 ∧ Gr q.2 := by
  intro n
  induction n with
  | zero =>
    intro x0 x1 x2 σ q h hG hx0
    exact absurd (show (none : Option (Int32 × aSt)) = some q from h) (by simp)
  | succ n ih =>
    intro x0 x1 x2 σ q h hG hx0
    have hk4 : ∀ (x0 : Nat) (x1 : Int32) (x2 : Int32) (σ : aSt) (q : Int32 × aSt), H_X9_takingsOfAll_4 N n x0 x1 x2 σ = some q → Gr σ → isSale x0 → Ev xs L 74 4 [.ref x0, .int x1, .int x2] [] σ (wI q.1) q.2 ∧ Gr q.2 := ih
    have h : (if (aI σ 11 1) ≤ x2 then some (x1, σ) else cO (¬ (x2 < 0 ∨ 24 ≤ x2.toNatClampNeg)) ((H_X9_takingsOfAll_4 N n) x0 (x1 + (aI σ (x0 + 4 + x2.toNatClampNeg) 6)) (x2 + 1) σ)) = some q := h
    refine ev_a (fun he => ev_iload rfl rfl he) ?_
    refine ev_a (fun he => ev_aload rfl rfl he) ?_
    refine ev_a (fun he => ev_getR rfl (gr_ob (n := 9) hG (sh_Sale0 hx0)) (gr_p hG (gf_Sale0 hx0)) he) ?_
    refine ev_a (fun he => ev_getI rfl (gr_ob (n := 7) hG rfl) he) ?_
    refine ev_b (c := (aI σ 11 1) ≤ x2) (fun ht hf => ev_cge rfl ht hf) (fun hc1 => ?_) (fun hc1 => ?_)
    · rw [if_pos hc1] at h
      refine ev_a (fun he => ev_iload rfl rfl he) ?_
      cases h
      exact ⟨ev_retI rfl, hG⟩
    · rw [if_neg hc1] at h
      refine ev_a (fun he => ev_iload rfl rfl he) ?_
      refine ev_a (fun he => ev_aload rfl rfl he) ?_
      refine ev_a (fun he => ev_getR rfl (gr_ob (n := 9) hG (sh_Sale0 hx0)) (gr_p hG (gf_Sale1 hx0)) he) ?_
      refine ev_a (fun he => ev_iload rfl rfl he) ?_
      obtain ⟨hc2, h⟩ := cO_inv h
      refine ev_a (fun he => ev_aldR rfl (gr_ar hG (sh_Sale1 hx0)) (by decide) hc2 (gr_p hG (el_Ou hx0 hc2).1) he) ?_
      refine ev_a (fun he => ev_getI rfl (gr_ob (n := 8) hG (sh_Ou0 (el_Ou hx0 hc2).2)) he) ?_
      refine ev_a (fun he => ev_bin (z := x1 + (aI σ (x0 + 4 + x2.toNatClampNeg) 6)) rfl rfl he) ?_
      refine ev_a (fun he => ev_istore (ls' := [.ref x0, .int (x1 + (aI σ (x0 + 4 + x2.toNatClampNeg) 6)), .int x2]) rfl (Nat.le_of_ble_eq_true rfl) rfl he) ?_
      refine ev_a (fun he => ev_iinc (ls' := [.ref x0, .int (x1 + (aI σ (x0 + 4 + x2.toNatClampNeg) 6)), .int (x2 + 1)]) rfl rfl rfl (Nat.le_of_ble_eq_true rfl) rfl he) ?_
      refine ev_a (fun he => ev_goto rfl he) ?_
      exact hk4 x0 (x1 + (aI σ (x0 + 4 + x2.toNatClampNeg) 6)) (x2 + 1) σ q h hG hx0
def F_X9_takingsOfAll (N : Nat) (x0 : Nat) (σ : aSt) : Option (Int32 × aSt) := H_X9_takingsOfAll_4 N N x0 0 0 σ
set_option maxRecDepth 20000 in
set_option maxHeartbeats 4000000 in
theorem T_X9_takingsOfAll (xs : Nat → Int32) (L : Nat) (N : Nat) (x0 : Nat) (σ : aSt) (q : Int32 × aSt) (h : F_X9_takingsOfAll N x0 σ = some q) (hG : Gr σ) (hx0 : isSale x0) : Cal xs L 74 [.ref x0] σ (wI q.1) q.2 ∧ Gr q.2 := by
  have h : (H_X9_takingsOfAll_4 N N x0 0 0 σ) = some q := h
  show Ev xs L 74 0 [.ref x0, aU, aU] [] σ (wI q.1) q.2 ∧ Gr q.2
  refine ev_a (fun he => ev_push rfl he) ?_
  refine ev_a (fun he => ev_istore (ls' := [.ref x0, .int 0, aU]) rfl (Nat.le_of_ble_eq_true rfl) rfl he) ?_
  refine ev_a (fun he => ev_push rfl he) ?_
  refine ev_a (fun he => ev_istore (ls' := [.ref x0, .int 0, .int 0]) rfl (Nat.le_of_ble_eq_true rfl) rfl he) ?_
  exact TH_X9_takingsOfAll_4 xs L N N x0 0 0 σ q h hG hx0
def J_X9_partOfSold_78 (N : Nat) (σ : aSt) : Option (Int32 × aSt) := some (0, σ)
set_option maxRecDepth 20000 in
set_option maxHeartbeats 4000000 in
theorem TJ_X9_partOfSold_78 (xs : Nat → Int32) (L : Nat) (N : Nat) (d0 : Value) (d1 : Value) (d2 : Value) (d3 : Value) (d4 : Value) (σ : aSt) (q : Int32 × aSt) (h : J_X9_partOfSold_78 N  σ = some q) (hG : Gr σ) : Ev xs L 76 78 [d0, d1, d2, d3, d4] [] σ (wI q.1) q.2 ∧ Gr q.2 := by
  have h : (some (0, σ)) = some q := h
  refine ev_a (fun he => ev_push rfl he) ?_
  cases h
  exact ⟨ev_retI rfl, hG⟩
def F_X9_partOfSold (N : Nat) (x0 : Nat) (x1 : Int32) (x2 : Int32) (σ : aSt) : Option (Int32 × aSt) := cO (¬ (x1 < 0 ∨ 24 ≤ x1.toNatClampNeg)) (cO (¬ (x1 < 0 ∨ 24 ≤ x1.toNatClampNeg)) (if x2 = 0 then (some ((aI σ (x0 + 4 + x1.toNatClampNeg) 1) * (aI σ (23 + x1.toNatClampNeg) 3), σ)) else if x2 = 1 then (cO (¬ (x1 < 0 ∨ 24 ≤ x1.toNatClampNeg)) (some (((aI σ (x0 + 4 + x1.toNatClampNeg) 1) * (aI σ (23 + x1.toNatClampNeg) 3)) - (aI σ (x0 + 4 + x1.toNatClampNeg) 6), σ))) else if x2 = 4 then (some (aI σ (23 + x1.toNatClampNeg) 3, σ)) else J_X9_partOfSold_78 N σ))
set_option maxRecDepth 20000 in
set_option maxHeartbeats 4000000 in
theorem T_X9_partOfSold (xs : Nat → Int32) (L : Nat) (N : Nat) (x0 : Nat) (x1 : Int32) (x2 : Int32) (σ : aSt) (q : Int32 × aSt) (h : F_X9_partOfSold N x0 x1 x2 σ = some q) (hG : Gr σ) (hx0 : isSale x0) : Cal xs L 76 [.ref x0, .int x1, .int x2] σ (wI q.1) q.2 ∧ Gr q.2 := by
  have h : (cO (¬ (x1 < 0 ∨ 24 ≤ x1.toNatClampNeg)) (cO (¬ (x1 < 0 ∨ 24 ≤ x1.toNatClampNeg)) (if x2 = 0 then (some ((aI σ (x0 + 4 + x1.toNatClampNeg) 1) * (aI σ (23 + x1.toNatClampNeg) 3), σ)) else if x2 = 1 then (cO (¬ (x1 < 0 ∨ 24 ≤ x1.toNatClampNeg)) (some (((aI σ (x0 + 4 + x1.toNatClampNeg) 1) * (aI σ (23 + x1.toNatClampNeg) 3)) - (aI σ (x0 + 4 + x1.toNatClampNeg) 6), σ))) else if x2 = 4 then (some (aI σ (23 + x1.toNatClampNeg) 3, σ)) else J_X9_partOfSold_78 N σ))) = some q := h
  show Ev xs L 76 0 [.ref x0, .int x1, .int x2, aU, aU] [] σ (wI q.1) q.2 ∧ Gr q.2
  refine ev_a (fun he => ev_aload rfl rfl he) ?_
  refine ev_a (fun he => ev_getR rfl (gr_ob (n := 9) hG (sh_Sale0 hx0)) (gr_p hG (gf_Sale0 hx0)) he) ?_
  refine ev_a (fun he => ev_getR rfl (gr_ob (n := 7) hG rfl) (gr_p (a := 11) (k := 0) (b := 12) hG rfl) he) ?_
  refine ev_a (fun he => ev_iload rfl rfl he) ?_
  obtain ⟨hc1, h⟩ := cO_inv h
  refine ev_a (fun he => ev_aldR rfl (gr_ar hG rfl) (by decide) hc1 (gr_p hG (el_Lo hc1).1) he) ?_
  refine ev_a (fun he => ev_getI rfl (gr_ob (n := 5) hG (sh_Lo0 (el_Lo hc1).2)) he) ?_
  refine ev_a (fun he => ev_istore (ls' := [.ref x0, .int x1, .int x2, .int (aI σ (23 + x1.toNatClampNeg) 3), aU]) rfl (Nat.le_of_ble_eq_true rfl) rfl he) ?_
  refine ev_a (fun he => ev_aload rfl rfl he) ?_
  refine ev_a (fun he => ev_getR rfl (gr_ob (n := 9) hG (sh_Sale0 hx0)) (gr_p hG (gf_Sale1 hx0)) he) ?_
  refine ev_a (fun he => ev_iload rfl rfl he) ?_
  obtain ⟨hc2, h⟩ := cO_inv h
  refine ev_a (fun he => ev_aldR rfl (gr_ar hG (sh_Sale1 hx0)) (by decide) hc2 (gr_p hG (el_Ou hx0 hc2).1) he) ?_
  refine ev_a (fun he => ev_getI rfl (gr_ob (n := 8) hG (sh_Ou0 (el_Ou hx0 hc2).2)) he) ?_
  refine ev_a (fun he => ev_iload rfl rfl he) ?_
  refine ev_a (fun he => ev_bin (z := (aI σ (x0 + 4 + x1.toNatClampNeg) 1) * (aI σ (23 + x1.toNatClampNeg) 3)) rfl rfl he) ?_
  refine ev_a (fun he => ev_istore (ls' := [.ref x0, .int x1, .int x2, .int (aI σ (23 + x1.toNatClampNeg) 3), .int ((aI σ (x0 + 4 + x1.toNatClampNeg) 1) * (aI σ (23 + x1.toNatClampNeg) 3))]) rfl (Nat.le_of_ble_eq_true rfl) rfl he) ?_
  refine ev_a (fun he => ev_iload rfl rfl he) ?_
  by_cases hz3 : x2 = 0
  · rw [if_pos hz3] at h
    refine ev_a (fun he => ev_tab (t := 60) rfl (by rw [hz3]; decide) he) ?_
    refine ev_a (fun he => ev_iload rfl rfl he) ?_
    cases h
    exact ⟨ev_retI rfl, hG⟩
  · rw [if_neg hz3] at h
    by_cases hz4 : x2 = 1
    · rw [if_pos hz4] at h
      refine ev_a (fun he => ev_tab (t := 63) rfl (by rw [hz4]; decide) he) ?_
      refine ev_a (fun he => ev_iload rfl rfl he) ?_
      refine ev_a (fun he => ev_aload rfl rfl he) ?_
      refine ev_a (fun he => ev_getR rfl (gr_ob (n := 9) hG (sh_Sale0 hx0)) (gr_p hG (gf_Sale1 hx0)) he) ?_
      refine ev_a (fun he => ev_iload rfl rfl he) ?_
      obtain ⟨hc5, h⟩ := cO_inv h
      refine ev_a (fun he => ev_aldR rfl (gr_ar hG (sh_Sale1 hx0)) (by decide) hc5 (gr_p hG (el_Ou hx0 hc5).1) he) ?_
      refine ev_a (fun he => ev_getI rfl (gr_ob (n := 8) hG (sh_Ou0 (el_Ou hx0 hc5).2)) he) ?_
      refine ev_a (fun he => ev_bin (z := ((aI σ (x0 + 4 + x1.toNatClampNeg) 1) * (aI σ (23 + x1.toNatClampNeg) 3)) - (aI σ (x0 + 4 + x1.toNatClampNeg) 6)) rfl rfl he) ?_
      cases h
      exact ⟨ev_retI rfl, hG⟩
    · rw [if_neg hz4] at h
      by_cases hz6 : x2 = 4
      · rw [if_pos hz6] at h
        refine ev_a (fun he => ev_tab (t := 76) rfl (by rw [hz6]; decide) he) ?_
        refine ev_a (fun he => ev_iload rfl rfl he) ?_
        cases h
        exact ⟨ev_retI rfl, hG⟩
      · rw [if_neg hz6] at h
        refine ev_a (fun he => ev_tab (t := 78) rfl (aSwt_d [0, 1, 4] rfl (by decide) (List.forall_mem_cons.mpr ⟨hz3, (List.forall_mem_cons.mpr ⟨hz4, (List.forall_mem_cons.mpr ⟨hz6, (fun _ hm => absurd hm List.not_mem_nil)⟩)⟩)⟩)) he) ?_
        exact TJ_X9_partOfSold_78 xs L N (.ref x0) (.int x1) (.int x2) (.int (aI σ (23 + x1.toNatClampNeg) 3)) (.int ((aI σ (x0 + 4 + x1.toNatClampNeg) 1) * (aI σ (23 + x1.toNatClampNeg) 3))) σ q h hG
def F_X9_partOfWithdrawn (N : Nat) (x0 : Nat) (x1 : Int32) (x2 : Int32) (σ : aSt) : Option (Int32 × aSt) := if x2 = 2 then (cO (¬ (x1 < 0 ∨ 24 ≤ x1.toNatClampNeg)) (some (aI σ (x0 + 4 + x1.toNatClampNeg) 6, σ))) else if x2 = 3 then (some (1, σ)) else some (0, σ)
set_option maxRecDepth 20000 in
set_option maxHeartbeats 4000000 in
theorem T_X9_partOfWithdrawn (xs : Nat → Int32) (L : Nat) (N : Nat) (x0 : Nat) (x1 : Int32) (x2 : Int32) (σ : aSt) (q : Int32 × aSt) (h : F_X9_partOfWithdrawn N x0 x1 x2 σ = some q) (hG : Gr σ) (hx0 : isSale x0) : Cal xs L 77 [.ref x0, .int x1, .int x2] σ (wI q.1) q.2 ∧ Gr q.2 := by
  have h : (if x2 = 2 then (cO (¬ (x1 < 0 ∨ 24 ≤ x1.toNatClampNeg)) (some (aI σ (x0 + 4 + x1.toNatClampNeg) 6, σ))) else if x2 = 3 then (some (1, σ)) else some (0, σ)) = some q := h
  show Ev xs L 77 0 [.ref x0, .int x1, .int x2] [] σ (wI q.1) q.2 ∧ Gr q.2
  refine ev_a (fun he => ev_iload rfl rfl he) ?_
  by_cases hz1 : x2 = 2
  · rw [if_pos hz1] at h
    refine ev_a (fun he => ev_look (t := 28) rfl (by rw [hz1]; decide) he) ?_
    refine ev_a (fun he => ev_aload rfl rfl he) ?_
    refine ev_a (fun he => ev_getR rfl (gr_ob (n := 9) hG (sh_Sale0 hx0)) (gr_p hG (gf_Sale1 hx0)) he) ?_
    refine ev_a (fun he => ev_iload rfl rfl he) ?_
    obtain ⟨hc2, h⟩ := cO_inv h
    refine ev_a (fun he => ev_aldR rfl (gr_ar hG (sh_Sale1 hx0)) (by decide) hc2 (gr_p hG (el_Ou hx0 hc2).1) he) ?_
    refine ev_a (fun he => ev_getI rfl (gr_ob (n := 8) hG (sh_Ou0 (el_Ou hx0 hc2).2)) he) ?_
    cases h
    exact ⟨ev_retI rfl, hG⟩
  · rw [if_neg hz1] at h
    by_cases hz3 : x2 = 3
    · rw [if_pos hz3] at h
      refine ev_a (fun he => ev_look (t := 38) rfl (by rw [hz3]; decide) he) ?_
      refine ev_a (fun he => ev_push rfl he) ?_
      cases h
      exact ⟨ev_retI rfl, hG⟩
    · rw [if_neg hz3] at h
      refine ev_a (fun he => ev_look (t := 40) rfl (by rw [lv_osw (a := 2) hz1 (by decide), lv_osw (a := 3) hz3 (by decide)]; rfl) he) ?_
      refine ev_a (fun he => ev_push rfl he) ?_
      cases h
      exact ⟨ev_retI rfl, hG⟩
def J_X9_total_9 (N : Nat) (σ : aSt) : Option (Int32 × aSt) := some ((-1), σ)
set_option maxRecDepth 20000 in
set_option maxHeartbeats 4000000 in
theorem TJ_X9_total_9 (xs : Nat → Int32) (L : Nat) (N : Nat) (d0 : Value) (d1 : Value) (d2 : Value) (d3 : Value) (σ : aSt) (q : Int32 × aSt) (h : J_X9_total_9 N  σ = some q) (hG : Gr σ) : Ev xs L 75 9 [d0, d1, d2, d3] [] σ (wI q.1) q.2 ∧ Gr q.2 := by
  have h : (some ((-1), σ)) = some q := h
  refine ev_a (fun he => ev_push rfl he) ?_
  cases h
  exact ⟨ev_retI rfl, hG⟩
def J_X9_total_54 (N : Nat) (k15 : Nat → Int32 → Int32 → Int32 → aSt → Option (Int32 × aSt)) (x0 : Nat) (x1 : Int32) (x3 : Int32) (s0 : Int32) (s1 : Int32) (σ : aSt) : Option (Int32 × aSt) := k15 x0 x1 (s0 + s1) (x3 + 1) σ
set_option maxRecDepth 20000 in
set_option maxHeartbeats 4000000 in
theorem TJ_X9_total_54 (xs : Nat → Int32) (L : Nat) (N : Nat) (k15 : Nat → Int32 → Int32 → Int32 → aSt → Option (Int32 × aSt)) (hk15 : ∀ (x0 : Nat) (x1 : Int32) (x2 : Int32) (x3 : Int32) (σ : aSt) (q : Int32 × aSt), k15 x0 x1 x2 x3 σ = some q → Gr σ → isSale x0 → Ev xs L 75 15 [.ref x0, .int x1, .int x2, .int x3] [] σ (wI q.1) q.2 ∧ Gr q.2) (x0 : Nat) (x1 : Int32) (x3 : Int32) (s0 : Int32) (s1 : Int32) (d2 : Value) (σ : aSt) (q : Int32 × aSt) (h : J_X9_total_54 N k15 x0 x1 x3 s0 s1 σ = some q) (hG : Gr σ) (hx0 : isSale x0) : Ev xs L 75 54 [.ref x0, .int x1, d2, .int x3] [.int s1, .int s0] σ (wI q.1) q.2 ∧ Gr q.2 := by
  have h : (k15 x0 x1 (s0 + s1) (x3 + 1) σ) = some q := h
  refine ev_a (fun he => ev_bin (z := s0 + s1) rfl rfl he) ?_
  refine ev_a (fun he => ev_istore (ls' := [.ref x0, .int x1, .int (s0 + s1), .int x3]) rfl (Nat.le_of_ble_eq_true rfl) rfl he) ?_
  refine ev_a (fun he => ev_iinc (ls' := [.ref x0, .int x1, .int (s0 + s1), .int (x3 + 1)]) rfl rfl rfl (Nat.le_of_ble_eq_true rfl) rfl he) ?_
  refine ev_a (fun he => ev_goto rfl he) ?_
  exact hk15 x0 x1 (s0 + s1) (x3 + 1) σ q h hG hx0
def H_X9_total_15 (N : Nat) : Nat → Nat → Int32 → Int32 → Int32 → aSt → Option (Int32 × aSt)
  | 0, _, _, _, _, _ => none
  | n + 1, x0, x1, x2, x3, σ => if (aI σ 11 1) ≤ x3 then some (x2, σ) else cO (¬ (x3 < 0 ∨ 24 ≤ x3.toNatClampNeg)) (oB (F_X6_isSold N (x0 + 4 + x3.toNatClampNeg) σ) fun y3 σ4 => if y3 = 0 then oB (F_X9_partOfWithdrawn N x0 x3 x1 σ4) fun y9 σ10 => J_X9_total_54 N (H_X9_total_15 N n) x0 x1 x3 x2 y9 σ10 else oB (F_X9_partOfSold N x0 x3 x1 σ4) fun y14 σ15 => J_X9_total_54 N (H_X9_total_15 N n) x0 x1 x3 x2 y14 σ15)
set_option maxRecDepth 20000 in
set_option maxHeartbeats 4000000 in
theorem TH_X9_total_15 (xs : Nat → Int32) (L : Nat) (N : Nat) : ∀ (n : Nat) (x0 : Nat) (x1 : Int32) (x2 : Int32) (x3 : Int32) (σ : aSt) (q : Int32 × aSt), H_X9_total_15 N n x0 x1 x2 x3 σ = some q → Gr σ → isSale x0 → Ev xs L 75 15 [.ref x0, .int x1, .int x2, .int x3] [] σ (wI q.1) q.2 ∧ Gr q.2 := by
  intro n
  induction n with
  | zero =>
    intro x0 x1 x2 x3 σ q h hG hx0
    exact absurd (show (none : Option (Int32 × aSt)) = some q from h) (by simp)
  | succ n ih =>
    intro x0 x1 x2 x3 σ q h hG hx0
    have hk15 : ∀ (x0 : Nat) (x1 : Int32) (x2 : Int32) (x3 : Int32) (σ : aSt) (q : Int32 × aSt), H_X9_total_15 N n x0 x1 x2 x3 σ = some q → Gr σ → isSale x0 → Ev xs L 75 15 [.ref x0, .int x1, .int x2, .int x3] [] σ (wI q.1) q.2 ∧ Gr q.2 := ih
    have h : (if (aI σ 11 1) ≤ x3 then some (x2, σ) else cO (¬ (x3 < 0 ∨ 24 ≤ x3.toNatClampNeg)) (oB (F_X6_isSold N (x0 + 4 + x3.toNatClampNeg) σ) fun y3 σ4 => if y3 = 0 then oB (F_X9_partOfWithdrawn N x0 x3 x1 σ4) fun y9 σ10 => J_X9_total_54 N (H_X9_total_15 N n) x0 x1 x3 x2 y9 σ10 else oB (F_X9_partOfSold N x0 x3 x1 σ4) fun y14 σ15 => J_X9_total_54 N (H_X9_total_15 N n) x0 x1 x3 x2 y14 σ15)) = some q := h
    refine ev_a (fun he => ev_iload rfl rfl he) ?_
    refine ev_a (fun he => ev_aload rfl rfl he) ?_
    refine ev_a (fun he => ev_getR rfl (gr_ob (n := 9) hG (sh_Sale0 hx0)) (gr_p hG (gf_Sale0 hx0)) he) ?_
    refine ev_a (fun he => ev_getI rfl (gr_ob (n := 7) hG rfl) he) ?_
    refine ev_b (c := (aI σ 11 1) ≤ x3) (fun ht hf => ev_cge rfl ht hf) (fun hc1 => ?_) (fun hc1 => ?_)
    · rw [if_pos hc1] at h
      refine ev_a (fun he => ev_iload rfl rfl he) ?_
      cases h
      exact ⟨ev_retI rfl, hG⟩
    · rw [if_neg hc1] at h
      refine ev_a (fun he => ev_iload rfl rfl he) ?_
      refine ev_a (fun he => ev_aload rfl rfl he) ?_
      refine ev_a (fun he => ev_getR rfl (gr_ob (n := 9) hG (sh_Sale0 hx0)) (gr_p hG (gf_Sale1 hx0)) he) ?_
      refine ev_a (fun he => ev_iload rfl rfl he) ?_
      obtain ⟨hc2, h⟩ := cO_inv h
      refine ev_a (fun he => ev_aldR rfl (gr_ar hG (sh_Sale1 hx0)) (by decide) hc2 (gr_p hG (el_Ou hx0 hc2).1) he) ?_
      obtain ⟨y3, σ4, h5, h⟩ := oB_inv h
      obtain ⟨c6, hG7⟩ := T_X6_isSold xs L N (x0 + 4 + x3.toNatClampNeg) σ (y3, σ4) h5 hG (el_Ou hx0 hc2).2
      refine ev_a (fun he => ev_callV (as := []) rfl (gr_ob (n := 8) hG (sh_Ou0 (el_Ou hx0 hc2).2)) rfl rfl rfl (Nat.le_of_ble_eq_true rfl) (Nat.le_of_ble_eq_true rfl) c6 he) ?_
      refine ev_b (c := y3 = 0) (fun ht hf => ev_ifeq rfl ht hf) (fun hc8 => ?_) (fun hc8 => ?_)
      · rw [if_pos hc8] at h
        refine ev_a (fun he => ev_aload rfl rfl he) ?_
        refine ev_a (fun he => ev_iload rfl rfl he) ?_
        refine ev_a (fun he => ev_iload rfl rfl he) ?_
        obtain ⟨y9, σ10, h11, h⟩ := oB_inv h
        obtain ⟨c12, hG13⟩ := T_X9_partOfWithdrawn xs L N x0 x3 x1 σ4 (y9, σ10) h11 hG7 hx0
        refine ev_a (fun he => ev_callV (as := [.int x3, .int x1]) rfl (gr_ob (n := 9) hG7 (sh_Sale0 hx0)) rfl rfl rfl (Nat.le_of_ble_eq_true rfl) (Nat.le_of_ble_eq_true rfl) c12 he) ?_
        exact TJ_X9_total_54 xs L N (H_X9_total_15 N n) hk15 x0 x1 x3 x2 y9 (.int x2) σ10 q h hG13 hx0
      · rw [if_neg hc8] at h
        refine ev_a (fun he => ev_aload rfl rfl he) ?_
        refine ev_a (fun he => ev_iload rfl rfl he) ?_
        refine ev_a (fun he => ev_iload rfl rfl he) ?_
        obtain ⟨y14, σ15, h16, h⟩ := oB_inv h
        obtain ⟨c17, hG18⟩ := T_X9_partOfSold xs L N x0 x3 x1 σ4 (y14, σ15) h16 hG7 hx0
        refine ev_a (fun he => ev_callV (as := [.int x3, .int x1]) rfl (gr_ob (n := 9) hG7 (sh_Sale0 hx0)) rfl rfl rfl (Nat.le_of_ble_eq_true rfl) (Nat.le_of_ble_eq_true rfl) c17 he) ?_
        refine ev_a (fun he => ev_goto rfl he) ?_
        exact TJ_X9_total_54 xs L N (H_X9_total_15 N n) hk15 x0 x1 x3 x2 y14 (.int x2) σ15 q h hG18 hx0
def F_X9_total (N : Nat) (x0 : Nat) (x1 : Int32) (σ : aSt) : Option (Int32 × aSt) := if x1 < 0 then J_X9_total_9 N σ else if x1 ≤ 4 then H_X9_total_15 N N x0 x1 0 0 σ else J_X9_total_9 N σ
set_option maxRecDepth 20000 in
set_option maxHeartbeats 4000000 in
theorem T_X9_total (xs : Nat → Int32) (L : Nat) (N : Nat) (x0 : Nat) (x1 : Int32) (σ : aSt) (q : Int32 × aSt) (h : F_X9_total N x0 x1 σ = some q) (hG : Gr σ) (hx0 : isSale x0) : Cal xs L 75 [.ref x0, .int x1] σ (wI q.1) q.2 ∧ Gr q.2 := by
  have h : (if x1 < 0 then J_X9_total_9 N σ else if x1 ≤ 4 then H_X9_total_15 N N x0 x1 0 0 σ else J_X9_total_9 N σ) = some q := h
  show Ev xs L 75 0 [.ref x0, .int x1, aU, aU] [] σ (wI q.1) q.2 ∧ Gr q.2
  refine ev_a (fun he => ev_iload rfl rfl he) ?_
  refine ev_b (c := x1 < 0) (fun ht hf => ev_iflt rfl ht hf) (fun hc19 => ?_) (fun hc19 => ?_)
  · rw [if_pos hc19] at h
    exact TJ_X9_total_9 xs L N (.ref x0) (.int x1) (aU) (aU) σ q h hG
  · rw [if_neg hc19] at h
    refine ev_a (fun he => ev_iload rfl rfl he) ?_
    refine ev_a (fun he => ev_push rfl he) ?_
    refine ev_b (c := x1 ≤ 4) (fun ht hf => ev_cle rfl ht hf) (fun hc20 => ?_) (fun hc20 => ?_)
    · rw [if_pos hc20] at h
      refine ev_a (fun he => ev_push rfl he) ?_
      refine ev_a (fun he => ev_istore (ls' := [.ref x0, .int x1, .int 0, aU]) rfl (Nat.le_of_ble_eq_true rfl) rfl he) ?_
      refine ev_a (fun he => ev_push rfl he) ?_
      refine ev_a (fun he => ev_istore (ls' := [.ref x0, .int x1, .int 0, .int 0]) rfl (Nat.le_of_ble_eq_true rfl) rfl he) ?_
      exact TH_X9_total_15 xs L N N x0 x1 0 0 σ q h hG hx0
    · rw [if_neg hc20] at h
      exact TJ_X9_total_9 xs L N (.ref x0) (.int x1) (aU) (aU) σ q h hG
