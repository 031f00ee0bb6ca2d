def H_X9_openPurses_2 (N : Nat) : Nat → Nat → Int32 → aSt → Option (Unit × aSt)
  | 0, _, _, _ => none
  | n + 1, x0, x1, σ => if (aI σ 11 3) ≤ x1 then some ((), σ) else cO (¬ (x1 < 0 ∨ 6 ≤ x1.toNatClampNeg)) (cO (¬ (x1 < 0 ∨ 6 ≤ x1.toNatClampNeg)) (oB (F_X7_open N (x0 + 28 + 2 * x1.toNatClampNeg) (aI σ (47 + 9 * x1.toNatClampNeg) 1) σ) fun y4 σ5 => (H_X9_openPurses_2 N n) x0 (x1 + 1) σ5))
set_option maxRecDepth 20000 in
set_option maxHeartbeats 4000000 in
theorem TH_X9_openPurses_2 (xs : Nat → Int32) (L : Nat) (N : Nat) : ∀ (n : Nat) (x0 : Nat) (x1 : Int32) (σ : aSt) (q : Unit × aSt), H_X9_openPurses_2 N n x0 x1 σ = some q → Gr σ → isSale x0 → Ev xs L 59 2 [.ref x0, .int x1] [] σ (wV q.1) q.2 ∧ Gr q.2 := by
  intro n
  induction n with
  | zero =>
    intro x0 x1 σ q h hG hx0
    exact absurd (show (none : Option (Unit × aSt)) = some q from h) (by simp)
  | succ n ih =>
    intro x0 x1 σ q h hG hx0
    have hk2 : ∀ (x0 : Nat) (x1 : Int32) (σ : aSt) (q : Unit × aSt), H_X9_openPurses_2 N n x0 x1 σ = some q → Gr σ → isSale x0 → Ev xs L 59 2 [.ref x0, .int x1] [] σ (wV q.1) q.2 ∧ Gr q.2 := ih
    have h : (if (aI σ 11 3) ≤ x1 then some ((), σ) else cO (¬ (x1 < 0 ∨ 6 ≤ x1.toNatClampNeg)) (cO (¬ (x1 < 0 ∨ 6 ≤ x1.toNatClampNeg)) (oB (F_X7_open N (x0 + 28 + 2 * x1.toNatClampNeg) (aI σ (47 + 9 * x1.toNatClampNeg) 1) σ) fun y4 σ5 => (H_X9_openPurses_2 N n) x0 (x1 + 1) σ5))) = some q := h
    refine ev_a (fun he => ev_iload rfl rfl he) ?_
    refine ev_a (fun he => ev_aload rfl rfl he) ?_
    refine ev_a (fun he => ev_getR rfl (gr_ob (n := 9) hG (sh_Sale0 hx0)) (gr_p hG (gf_Sale0 hx0)) he) ?_
    refine ev_a (fun he => ev_getI rfl (gr_ob (n := 7) hG rfl) he) ?_
    refine ev_b (c := (aI σ 11 3) ≤ x1) (fun ht hf => ev_cge rfl ht hf) (fun hc1 => ?_) (fun hc1 => ?_)
    · rw [if_pos hc1] at h
      cases h
      exact ⟨ev_retV rfl, hG⟩
    · rw [if_neg hc1] at h
      refine ev_a (fun he => ev_aload rfl rfl he) ?_
      refine ev_a (fun he => ev_getR rfl (gr_ob (n := 9) hG (sh_Sale0 hx0)) (gr_p hG (gf_Sale2 hx0)) he) ?_
      refine ev_a (fun he => ev_iload rfl rfl he) ?_
      obtain ⟨hc2, h⟩ := cO_inv h
      refine ev_a (fun he => ev_aldR rfl (gr_ar hG (sh_Sale2 hx0)) (by decide) hc2 (gr_p hG (el_Pu hx0 hc2).1) he) ?_
      refine ev_a (fun he => ev_aload rfl rfl he) ?_
      refine ev_a (fun he => ev_getR rfl (gr_ob (n := 9) hG (sh_Sale0 hx0)) (gr_p hG (gf_Sale0 hx0)) he) ?_
      refine ev_a (fun he => ev_getR rfl (gr_ob (n := 7) hG rfl) (gr_p (a := 11) (k := 2) (b := 13) hG rfl) he) ?_
      refine ev_a (fun he => ev_iload rfl rfl he) ?_
      obtain ⟨hc3, h⟩ := cO_inv h
      refine ev_a (fun he => ev_aldR rfl (gr_ar hG rfl) (by decide) hc3 (gr_p hG (el_Bu hc3).1) he) ?_
      refine ev_a (fun he => ev_getI rfl (gr_ob (n := 4) hG (sh_Bu0 (el_Bu hc3).2)) he) ?_
      obtain ⟨y4, σ5, h6, h⟩ := oB_inv h
      obtain ⟨c7, hG8⟩ := T_X7_open xs L N (x0 + 28 + 2 * x1.toNatClampNeg) (aI σ (47 + 9 * x1.toNatClampNeg) 1) σ (y4, σ5) h6 hG (el_Pu hx0 hc2).2
      refine ev_a (fun he => ev_callV (as := [.int (aI σ (47 + 9 * x1.toNatClampNeg) 1)]) rfl (gr_ob (n := 5) hG (sh_Pu0 (el_Pu hx0 hc2).2)) rfl rfl rfl (Nat.le_of_ble_eq_true rfl) (Nat.le_of_ble_eq_true rfl) c7 he) ?_
      refine ev_a (fun he => ev_iinc (ls' := [.ref x0, .int (x1 + 1)]) rfl rfl rfl (Nat.le_of_ble_eq_true rfl) rfl he) ?_
      refine ev_a (fun he => ev_goto rfl he) ?_
      exact hk2 x0 (x1 + 1) σ5 q h hG8 hx0
def F_X9_openPurses (N : Nat) (x0 : Nat) (σ : aSt) : Option (Unit × aSt) := H_X9_openPurses_2 N N x0 0 σ
set_option maxRecDepth 20000 in
set_option maxHeartbeats 4000000 in
theorem T_X9_openPurses (xs : Nat → Int32) (L : Nat) (N : Nat) (x0 : Nat) (σ : aSt) (q : Unit × aSt) (h : F_X9_openPurses N x0 σ = some q) (hG : Gr σ) (hx0 : isSale x0) : Cal xs L 59 [.ref x0] σ (wV q.1) q.2 ∧ Gr q.2 := by
  have h : (H_X9_openPurses_2 N N x0 0 σ) = some q := h
  show Ev xs L 59 0 [.ref x0, aU] [] σ (wV q.1) q.2 ∧ Gr q.2
  refine ev_a (fun he => ev_push rfl he) ?_
  refine ev_a (fun he => ev_istore (ls' := [.ref x0, .int 0]) rfl (Nat.le_of_ble_eq_true rfl) rfl he) ?_
  exact TH_X9_openPurses_2 xs L N N x0 0 σ q h hG hx0
def H_X9_begin_54 (N : Nat) : Nat → Nat → Int32 → aSt → Option (Unit × aSt)
  | 0, _, _, _ => none
  | n + 1, x0, x2, σ => if (aI σ 11 1) ≤ x2 then some ((), σ) else cO (¬ (x2 < 0 ∨ 24 ≤ x2.toNatClampNeg)) (lt (aWI σ (x0 + 4 + x2.toNatClampNeg) 0 ((-1))) fun σ3 => lt (aWI σ3 (x0 + 4 + x2.toNatClampNeg) 7 ((-1))) fun σ6 => oB (F_X2_startOf N x2 σ6) fun y9 σ10 => lt (aWI σ10 (x0 + 4 + x2.toNatClampNeg) 4 y9) fun σ14 => oB (F_X2_leastOf N x2 (aI σ14 (x0 + 4 + x2.toNatClampNeg) 4) σ14) fun y17 σ18 => lt (aWI σ18 (x0 + 4 + x2.toNatClampNeg) 5 y17) fun σ22 => (H_X9_begin_54 N n) x0 (x2 + 1) σ22)
set_option maxRecDepth 20000 in
set_option maxHeartbeats 4000000 in
theorem TH_X9_begin_54 (xs : Nat → Int32) (L : Nat) (N : Nat) : ∀ (n : Nat) (x0 : Nat) (x2 : Int32) (d1 : Value) (d3 : Value) (σ : aSt) (q : Unit × aSt), H_X9_begin_54 N n x0 x2 σ = some q → Gr σ → isSale x0 → Ev xs L 61 54 [.ref x0, d1, .int x2, d3] [] σ (wV q.1) q.2 ∧ Gr q.2 := by
  intro n
  induction n with
  | zero =>
    intro x0 x2 d1 d3 σ q h hG hx0
    exact absurd (show (none : Option (Unit × aSt)) = some q from h) (by simp)
  | succ n ih =>
    intro x0 x2 d1 d3 σ q h hG hx0
    have hk54 : ∀ (x0 : Nat) (x2 : Int32) (d1 : Value) (d3 : Value) (σ : aSt) (q : Unit × aSt), H_X9_begin_54 N n x0 x2 σ = some q → Gr σ → isSale x0 → Ev xs L 61 54 [.ref x0, d1, .int x2, d3] [] σ (wV q.1) q.2 ∧ Gr q.2 := ih
    have h : (if (aI σ 11 1) ≤ x2 then some ((), σ) else cO (¬ (x2 < 0 ∨ 24 ≤ x2.toNatClampNeg)) (lt (aWI σ (x0 + 4 + x2.toNatClampNeg) 0 ((-1))) fun σ3 => lt (aWI σ3 (x0 + 4 + x2.toNatClampNeg) 7 ((-1))) fun σ6 => oB (F_X2_startOf N x2 σ6) fun y9 σ10 => lt (aWI σ10 (x0 + 4 + x2.toNatClampNeg) 4 y9) fun σ14 => oB (F_X2_leastOf N x2 (aI σ14 (x0 + 4 + x2.toNatClampNeg) 4) σ14) fun y17 σ18 => lt (aWI σ18 (x0 + 4 + x2.toNatClampNeg) 5 y17) fun σ22 => (H_X9_begin_54 N n) x0 (x2 + 1) σ22)) = some q := h
    refine ev_a (fun he => ev_iload rfl rfl he) ?_
    refine ev_a (fun he => ev_aload rfl rfl he) ?_
    refine ev_a (fun he => ev_getR rfl (gr_ob (n := 9) hG (sh_Sale0 hx0)) (gr_p hG (gf_Sale0 hx0)) he) ?_
    refine ev_a (fun he => ev_getI rfl (gr_ob (n := 7) hG rfl) he) ?_
    refine ev_b (c := (aI σ 11 1) ≤ x2) (fun ht hf => ev_cge rfl ht hf) (fun hc1 => ?_) (fun hc1 => ?_)
    · rw [if_pos hc1] at h
      cases h
      exact ⟨ev_retV rfl, hG⟩
    · rw [if_neg hc1] at h
      refine ev_a (fun he => ev_aload rfl rfl he) ?_
      refine ev_a (fun he => ev_getR rfl (gr_ob (n := 9) hG (sh_Sale0 hx0)) (gr_p hG (gf_Sale1 hx0)) he) ?_
      refine ev_a (fun he => ev_iload rfl rfl he) ?_
      obtain ⟨hc2, h⟩ := cO_inv h
      refine ev_a (fun he => ev_aldR rfl (gr_ar hG (sh_Sale1 hx0)) (by decide) hc2 (gr_p hG (el_Ou hx0 hc2).1) he) ?_
      refine ev_a (fun he => ev_astore (ls' := [.ref x0, d1, .int x2, .ref (x0 + 4 + x2.toNatClampNeg)]) rfl (Nat.le_of_ble_eq_true rfl) rfl he) ?_
      refine ev_a (fun he => ev_aload rfl rfl he) ?_
      refine ev_a (fun he => ev_push rfl he) ?_
      obtain ⟨σ3, e4, h⟩ := lt_inv h
      have hG5 : Gr σ3 := gr_wi e4 hG
      refine ev_a (fun he => ev_putI rfl (gr_ob (n := 8) hG (sh_Ou0 (el_Ou hx0 hc2).2)) e4 he) ?_
      refine ev_a (fun he => ev_aload rfl rfl he) ?_
      refine ev_a (fun he => ev_push rfl he) ?_
      obtain ⟨σ6, e7, h⟩ := lt_inv h
      have hG8 : Gr σ6 := gr_wi e7 hG5
      refine ev_a (fun he => ev_putI rfl (gr_ob (n := 8) hG5 (sh_Ou0 (el_Ou hx0 hc2).2)) e7 he) ?_
      refine ev_a (fun he => ev_aload rfl rfl he) ?_
      refine ev_a (fun he => ev_aload rfl rfl he) ?_
      refine ev_a (fun he => ev_getR rfl (gr_ob (n := 9) hG8 (sh_Sale0 hx0)) (gr_p hG8 (gf_Sale0 hx0)) he) ?_
      refine ev_a (fun he => ev_iload rfl rfl he) ?_
      obtain ⟨y9, σ10, h11, h⟩ := oB_inv h
      obtain ⟨c12, hG13⟩ := T_X2_startOf xs L N x2 σ6 (y9, σ10) h11 hG8
      refine ev_a (fun he => ev_callV (as := [.int x2]) rfl (gr_ob (n := 7) hG8 rfl) rfl rfl rfl (Nat.le_of_ble_eq_true rfl) (Nat.le_of_ble_eq_true rfl) c12 he) ?_
      obtain ⟨σ14, e15, h⟩ := lt_inv h
      have hG16 : Gr σ14 := gr_wi e15 hG13
      refine ev_a (fun he => ev_putI rfl (gr_ob (n := 8) hG13 (sh_Ou0 (el_Ou hx0 hc2).2)) e15 he) ?_
      refine ev_a (fun he => ev_aload rfl rfl he) ?_
      refine ev_a (fun he => ev_aload rfl rfl he) ?_
      refine ev_a (fun he => ev_getR rfl (gr_ob (n := 9) hG16 (sh_Sale0 hx0)) (gr_p hG16 (gf_Sale0 hx0)) he) ?_
      refine ev_a (fun he => ev_iload rfl rfl he) ?_
      refine ev_a (fun he => ev_aload rfl rfl he) ?_
      refine ev_a (fun he => ev_getI rfl (gr_ob (n := 8) hG16 (sh_Ou0 (el_Ou hx0 hc2).2)) he) ?_
      obtain ⟨y17, σ18, h19, h⟩ := oB_inv h
      obtain ⟨c20, hG21⟩ := T_X2_leastOf xs L N x2 (aI σ14 (x0 + 4 + x2.toNatClampNeg) 4) σ14 (y17, σ18) h19 hG16
      refine ev_a (fun he => ev_callV (as := [.int x2, .int (aI σ14 (x0 + 4 + x2.toNatClampNeg) 4)]) rfl (gr_ob (n := 7) hG16 rfl) rfl rfl rfl (Nat.le_of_ble_eq_true rfl) (Nat.le_of_ble_eq_true rfl) c20 he) ?_
      obtain ⟨σ22, e23, h⟩ := lt_inv h
      have hG24 : Gr σ22 := gr_wi e23 hG21
      refine ev_a (fun he => ev_putI rfl (gr_ob (n := 8) hG21 (sh_Ou0 (el_Ou hx0 hc2).2)) e23 he) ?_
      refine ev_a (fun he => ev_iinc (ls' := [.ref x0, (aKl d1), .int (x2 + 1), .ref (x0 + 4 + x2.toNatClampNeg)]) rfl rfl rfl (Nat.le_of_ble_eq_true rfl) rfl he) ?_
      refine ev_a (fun he => ev_goto rfl he) ?_
      exact hk54 x0 (x2 + 1) ((aKl d1)) (.ref (x0 + 4 + x2.toNatClampNeg)) σ22 q h hG24 hx0
def H_X9_begin_31 (N : Nat) : Nat → Nat → Int32 → aSt → Option (Unit × aSt)
  | 0, _, _, _ => none
  | n + 1, x0, x2, σ => if 3 ≤ x2 then H_X9_begin_54 N N x0 0 σ else cO (¬ (x2 < 0 ∨ 3 ≤ x2.toNatClampNeg)) (lt (aWI σ (x0 + 40 + 2 * x2.toNatClampNeg) 0 ((-1))) fun σ27 => (H_X9_begin_31 N n) x0 (x2 + 1) σ27)
set_option maxRecDepth 20000 in
set_option maxHeartbeats 4000000 in
theorem TH_X9_begin_31 (xs : Nat → Int32) (L : Nat) (N : Nat) : ∀ (n : Nat) (x0 : Nat) (x2 : Int32) (d1 : Value) (d3 : Value) (σ : aSt) (q : Unit × aSt), H_X9_begin_31 N n x0 x2 σ = some q → Gr σ → isSale x0 → Ev xs L 61 31 [.ref x0, d1, .int x2, d3] [] σ (wV q.1) q.2 ∧ Gr q.2 := by
  intro n
  induction n with
  | zero =>
    intro x0 x2 d1 d3 σ q h hG hx0
    exact absurd (show (none : Option (Unit × aSt)) = some q from h) (by simp)
  | succ n ih =>
    intro x0 x2 d1 d3 σ q h hG hx0
    have hk31 : ∀ (x0 : Nat) (x2 : Int32) (d1 : Value) (d3 : Value) (σ : aSt) (q : Unit × aSt), H_X9_begin_31 N n x0 x2 σ = some q → Gr σ → isSale x0 → Ev xs L 61 31 [.ref x0, d1, .int x2, d3] [] σ (wV q.1) q.2 ∧ Gr q.2 := ih
    have h : (if 3 ≤ x2 then H_X9_begin_54 N N x0 0 σ else cO (¬ (x2 < 0 ∨ 3 ≤ x2.toNatClampNeg)) (lt (aWI σ (x0 + 40 + 2 * x2.toNatClampNeg) 0 ((-1))) fun σ27 => (H_X9_begin_31 N n) x0 (x2 + 1) σ27)) = some q := h
    refine ev_a (fun he => ev_iload rfl rfl he) ?_
    refine ev_a (fun he => ev_push rfl he) ?_
    refine ev_b (c := 3 ≤ x2) (fun ht hf => ev_cge rfl ht hf) (fun hc25 => ?_) (fun hc25 => ?_)
    · rw [if_pos hc25] at h
      refine ev_a (fun he => ev_push rfl he) ?_
      refine ev_a (fun he => ev_istore (ls' := [.ref x0, (aKl d1), .int 0, d3]) rfl (Nat.le_of_ble_eq_true rfl) rfl he) ?_
      exact TH_X9_begin_54 xs L N N x0 0 ((aKl d1)) (d3) σ q h hG hx0
    · rw [if_neg hc25] at h
      refine ev_a (fun he => ev_aload rfl rfl he) ?_
      refine ev_a (fun he => ev_getR rfl (gr_ob (n := 9) hG (sh_Sale0 hx0)) (gr_p hG (gf_Sale4 hx0)) he) ?_
      refine ev_a (fun he => ev_iload rfl rfl he) ?_
      obtain ⟨hc26, h⟩ := cO_inv h
      refine ev_a (fun he => ev_aldR rfl (gr_ar hG (sh_Sale3 hx0)) (by decide) hc26 (gr_p hG (el_Ck hx0 hc26).1) he) ?_
      refine ev_a (fun he => ev_push rfl he) ?_
      obtain ⟨σ27, e28, h⟩ := lt_inv h
      have hG29 : Gr σ27 := gr_wi e28 hG
      refine ev_a (fun he => ev_putI rfl (gr_ob (n := 5) hG (sh_Ck0 (el_Ck hx0 hc26).2)) e28 he) ?_
      refine ev_a (fun he => ev_iinc (ls' := [.ref x0, (aKl d1), .int (x2 + 1), d3]) rfl rfl rfl (Nat.le_of_ble_eq_true rfl) rfl he) ?_
      refine ev_a (fun he => ev_goto rfl he) ?_
      exact hk31 x0 (x2 + 1) ((aKl d1)) (d3) σ27 q h hG29 hx0
def F_X9_begin (N : Nat) (x0 : Nat) (x1 : Int32) (σ : aSt) : Option (Unit × aSt) := lt (aWI σ x0 5 x1) fun σ30 => lt (aWI σ30 x0 3 ((-1))) fun σ33 => lt (aWI σ33 x0 6 0) fun σ36 => lt (aWI σ36 x0 7 0) fun σ39 => lt (aWI σ39 x0 8 0) fun σ42 => oB (F_X9_openPurses N x0 σ42) fun y45 σ46 => H_X9_begin_31 N N x0 0 σ46
set_option maxRecDepth 20000 in
set_option maxHeartbeats 4000000 in
theorem T_X9_begin (xs : Nat → Int32) (L : Nat) (N : Nat) (x0 : Nat) (x1 : Int32) (σ : aSt) (q : Unit × aSt) (h : F_X9_begin N x0 x1 σ = some q) (hG : Gr σ) (hx0 : isSale x0) : Cal xs L 61 [.ref x0, .int x1] σ (wV q.1) q.2 ∧ Gr q.2 := by
  have h : (lt (aWI σ x0 5 x1) fun σ30 => lt (aWI σ30 x0 3 ((-1))) fun σ33 => lt (aWI σ33 x0 6 0) fun σ36 => lt (aWI σ36 x0 7 0) fun σ39 => lt (aWI σ39 x0 8 0) fun σ42 => oB (F_X9_openPurses N x0 σ42) fun y45 σ46 => H_X9_begin_31 N N x0 0 σ46) = some q := h
  show Ev xs L 61 0 [.ref x0, .int x1, aU, aU] [] σ (wV q.1) q.2 ∧ Gr q.2
  refine ev_a (fun he => ev_aload rfl rfl he) ?_
  refine ev_a (fun he => ev_iload rfl rfl he) ?_
  obtain ⟨σ30, e31, h⟩ := lt_inv h
  have hG32 : Gr σ30 := gr_wi e31 hG
  refine ev_a (fun he => ev_putI rfl (gr_ob (n := 9) hG (sh_Sale0 hx0)) e31 he) ?_
  refine ev_a (fun he => ev_aload rfl rfl he) ?_
  refine ev_a (fun he => ev_push rfl he) ?_
  obtain ⟨σ33, e34, h⟩ := lt_inv h
  have hG35 : Gr σ33 := gr_wi e34 hG32
  refine ev_a (fun he => ev_putI rfl (gr_ob (n := 9) hG32 (sh_Sale0 hx0)) e34 he) ?_
  refine ev_a (fun he => ev_aload rfl rfl he) ?_
  refine ev_a (fun he => ev_push rfl he) ?_
  obtain ⟨σ36, e37, h⟩ := lt_inv h
  have hG38 : Gr σ36 := gr_wi e37 hG35
  refine ev_a (fun he => ev_putI rfl (gr_ob (n := 9) hG35 (sh_Sale0 hx0)) e37 he) ?_
  refine ev_a (fun he => ev_aload rfl rfl he) ?_
  refine ev_a (fun he => ev_push rfl he) ?_
  obtain ⟨σ39, e40, h⟩ := lt_inv h
  have hG41 : Gr σ39 := gr_wi e40 hG38
  refine ev_a (fun he => ev_putI rfl (gr_ob (n := 9) hG38 (sh_Sale0 hx0)) e40 he) ?_
  refine ev_a (fun he => ev_aload rfl rfl he) ?_
  refine ev_a (fun he => ev_push rfl he) ?_
  obtain ⟨σ42, e43, h⟩ := lt_inv h
  have hG44 : Gr σ42 := gr_wi e43 hG41
  refine ev_a (fun he => ev_putI rfl (gr_ob (n := 9) hG41 (sh_Sale0 hx0)) e43 he) ?_
  refine ev_a (fun he => ev_aload rfl rfl he) ?_
  obtain ⟨y45, σ46, h47, h⟩ := oB_inv h
  obtain ⟨c48, hG49⟩ := T_X9_openPurses xs L N x0 σ42 (y45, σ46) h47 hG44 hx0
  refine ev_a (fun he => ev_callV (as := []) rfl (gr_ob (n := 9) hG44 (sh_Sale0 hx0)) rfl rfl rfl (Nat.le_of_ble_eq_true rfl) (Nat.le_of_ble_eq_true rfl) c48 he) ?_
  refine ev_a (fun he => ev_push rfl he) ?_
  refine ev_a (fun he => ev_istore (ls' := [.ref x0, .int x1, .int 0, aU]) rfl (Nat.le_of_ble_eq_true rfl) rfl he) ?_
  exact TH_X9_begin_31 xs L N N x0 0 (.int x1) (aU) σ46 q h hG49 hx0
def J_X9_fillClocks_99 (N : Nat) (σ : aSt) : Option (Unit × aSt) := some ((), σ)
set_option maxRecDepth 20000 in
set_option maxHeartbeats 4000000 in
theorem TJ_X9_fillClocks_99 (xs : Nat → Int32) (L : Nat) (N : Nat) (d0 : Value) (d1 : Value) (d2 : Value) (σ : aSt) (q : Unit × aSt) (h : J_X9_fillClocks_99 N  σ = some q) (hG : Gr σ) : Ev xs L 62 99 [d0, d1, d2] [] σ (wV q.1) q.2 ∧ Gr q.2 := by
  have h : (some ((), σ)) = some q := h
  cases h
  exact ⟨ev_retV rfl, hG⟩
def J_X9_fillClocks_93 (N : Nat) (k2 : Nat → Int32 → aSt → Option (Unit × aSt)) (x0 : Nat) (x1 : Int32) (σ : aSt) : Option (Unit × aSt) := k2 x0 (x1 + 1) σ
set_option maxRecDepth 20000 in
set_option maxHeartbeats 4000000 in
theorem TJ_X9_fillClocks_93 (xs : Nat → Int32) (L : Nat) (N : Nat) (k2 : Nat → Int32 → aSt → Option (Unit × aSt)) (hk2 : ∀ (x0 : Nat) (x1 : Int32) (d2 : Value) (σ : aSt) (q : Unit × aSt), k2 x0 x1 σ = some q → Gr σ → isSale x0 → Ev xs L 62 2 [.ref x0, .int x1, d2] [] σ (wV q.1) q.2 ∧ Gr q.2) (x0 : Nat) (x1 : Int32) (d2 : Value) (σ : aSt) (q : Unit × aSt) (h : J_X9_fillClocks_93 N k2 x0 x1 σ = some q) (hG : Gr σ) (hx0 : isSale x0) : Ev xs L 62 93 [.ref x0, .int x1, d2] [] σ (wV q.1) q.2 ∧ Gr q.2 := by
  have h : (k2 x0 (x1 + 1) σ) = some q := h
  refine ev_a (fun he => ev_iinc (ls' := [.ref x0, .int (x1 + 1), d2]) rfl rfl rfl (Nat.le_of_ble_eq_true rfl) rfl he) ?_
  refine ev_a (fun he => ev_goto rfl he) ?_
  exact hk2 x0 (x1 + 1) (d2) σ q h hG hx0
def H_X9_fillClocks_2 (N : Nat) : Nat → Nat → Int32 → aSt → Option (Unit × aSt)
  | 0, _, _, _ => none
  | n + 1, x0, x1, σ => if 3 ≤ x1 then J_X9_fillClocks_99 N σ else if (aI σ 11 1) ≤ (aI σ x0 7) then J_X9_fillClocks_99 N σ else cO (¬ (x1 < 0 ∨ 3 ≤ x1.toNatClampNeg)) (oB (F_X1_isEmpty N (x0 + 40 + 2 * x1.toNatClampNeg) σ) fun y4 σ5 => if y4 = 0 then J_X9_fillClocks_93 N (H_X9_fillClocks_2 N n) x0 x1 σ5 else lt (aWI σ5 (x0 + 40 + 2 * x1.toNatClampNeg) 0 (aI σ5 x0 7)) fun σ10 => cO (¬ ((aI σ10 x0 7) < 0 ∨ 24 ≤ (aI σ10 x0 7).toNatClampNeg)) (lt (aWI σ10 (x0 + 40 + 2 * x1.toNatClampNeg) 1 (aI σ10 (x0 + 4 + (aI σ10 x0 7).toNatClampNeg) 4)) fun σ14 => cO (¬ ((aI σ14 x0 7) < 0 ∨ 24 ≤ (aI σ14 x0 7).toNatClampNeg)) (lt (aWI σ14 (x0 + 40 + 2 * x1.toNatClampNeg) 2 (aI σ14 (x0 + 4 + (aI σ14 x0 7).toNatClampNeg) 5)) fun σ18 => lt (aWI σ18 (x0 + 40 + 2 * x1.toNatClampNeg) 3 (aI σ18 x0 6)) fun σ21 => lt (aWI σ21 x0 7 ((aI σ21 x0 7) + 1)) fun σ24 => J_X9_fillClocks_93 N (H_X9_fillClocks_2 N n) x0 x1 σ24)))
set_option maxRecDepth 20000 in
set_option maxHeartbeats 4000000 in
theorem TH_X9_fillClocks_2 (xs : Nat → Int32) (L : Nat) (N : Nat) : ∀ (n : Nat) (x0 : Nat) (x1 : Int32) (d2 : Value) (σ : aSt) (q : Unit × aSt), H_X9_fillClocks_2 N n x0 x1 σ = some q → Gr σ → isSale x0 → Ev xs L 62 2 [.ref x0, .int x1, d2] [] σ (wV q.1) q.2 ∧ Gr q.2 := by
  intro n
  induction n with
  | zero =>
    intro x0 x1 d2 σ q h hG hx0
    exact absurd (show (none : Option (Unit × aSt)) = some q from h) (by simp)
  | succ n ih =>
    intro x0 x1 d2 σ q h hG hx0
    have hk2 : ∀ (x0 : Nat) (x1 : Int32) (d2 : Value) (σ : aSt) (q : Unit × aSt), H_X9_fillClocks_2 N n x0 x1 σ = some q → Gr σ → isSale x0 → Ev xs L 62 2 [.ref x0, .int x1, d2] [] σ (wV q.1) q.2 ∧ Gr q.2 := ih
    have h : (if 3 ≤ x1 then J_X9_fillClocks_99 N σ else if (aI σ 11 1) ≤ (aI σ x0 7) then J_X9_fillClocks_99 N σ else cO (¬ (x1 < 0 ∨ 3 ≤ x1.toNatClampNeg)) (oB (F_X1_isEmpty N (x0 + 40 + 2 * x1.toNatClampNeg) σ) fun y4 σ5 => if y4 = 0 then J_X9_fillClocks_93 N (H_X9_fillClocks_2 N n) x0 x1 σ5 else lt (aWI σ5 (x0 + 40 + 2 * x1.toNatClampNeg) 0 (aI σ5 x0 7)) fun σ10 => cO (¬ ((aI σ10 x0 7) < 0 ∨ 24 ≤ (aI σ10 x0 7).toNatClampNeg)) (lt (aWI σ10 (x0 + 40 + 2 * x1.toNatClampNeg) 1 (aI σ10 (x0 + 4 + (aI σ10 x0 7).toNatClampNeg) 4)) fun σ14 => cO (¬ ((aI σ14 x0 7) < 0 ∨ 24 ≤ (aI σ14 x0 7).toNatClampNeg)) (lt (aWI σ14 (x0 + 40 + 2 * x1.toNatClampNeg) 2 (aI σ14 (x0 + 4 + (aI σ14 x0 7).toNatClampNeg) 5)) fun σ18 => lt (aWI σ18 (x0 + 40 + 2 * x1.toNatClampNeg) 3 (aI σ18 x0 6)) fun σ21 => lt (aWI σ21 x0 7 ((aI σ21 x0 7) + 1)) fun σ24 => J_X9_fillClocks_93 N (H_X9_fillClocks_2 N n) x0 x1 σ24)))) = some q := h
    refine ev_a (fun he => ev_iload rfl rfl he) ?_
    refine ev_a (fun he => ev_push rfl he) ?_
    refine ev_b (c := 3 ≤ x1) (fun ht hf => ev_cge rfl ht hf) (fun hc1 => ?_) (fun hc1 => ?_)
    · rw [if_pos hc1] at h
      exact TJ_X9_fillClocks_99 xs L N (.ref x0) (.int x1) (d2) σ q h hG
    · rw [if_neg hc1] at h
      refine ev_a (fun he => ev_aload rfl rfl he) ?_
      refine ev_a (fun he => ev_getI rfl (gr_ob (n := 9) hG (sh_Sale0 hx0)) he) ?_
      refine ev_a (fun he => ev_aload rfl rfl he) ?_
      refine ev_a (fun he => ev_getR rfl (gr_ob (n := 9) hG (sh_Sale0 hx0)) (gr_p hG (gf_Sale0 hx0)) he) ?_
      refine ev_a (fun he => ev_getI rfl (gr_ob (n := 7) hG rfl) he) ?_
      refine ev_b (c := (aI σ 11 1) ≤ (aI σ x0 7)) (fun ht hf => ev_cge rfl ht hf) (fun hc2 => ?_) (fun hc2 => ?_)
      · rw [if_pos hc2] at h
        exact TJ_X9_fillClocks_99 xs L N (.ref x0) (.int x1) (d2) σ q h hG
      · rw [if_neg hc2] at h
        refine ev_a (fun he => ev_aload rfl rfl he) ?_
        refine ev_a (fun he => ev_getR rfl (gr_ob (n := 9) hG (sh_Sale0 hx0)) (gr_p hG (gf_Sale4 hx0)) he) ?_
        refine ev_a (fun he => ev_iload rfl rfl he) ?_
        obtain ⟨hc3, h⟩ := cO_inv h
        refine ev_a (fun he => ev_aldR rfl (gr_ar hG (sh_Sale3 hx0)) (by decide) hc3 (gr_p hG (el_Ck hx0 hc3).1) he) ?_
        refine ev_a (fun he => ev_astore (ls' := [.ref x0, .int x1, .ref (x0 + 40 + 2 * x1.toNatClampNeg)]) rfl (Nat.le_of_ble_eq_true rfl) rfl he) ?_
        refine ev_a (fun he => ev_aload rfl rfl he) ?_
        obtain ⟨y4, σ5, h6, h⟩ := oB_inv h
        obtain ⟨c7, hG8⟩ := T_X1_isEmpty xs L N (x0 + 40 + 2 * x1.toNatClampNeg) σ (y4, σ5) h6 hG (el_Ck hx0 hc3).2
        refine ev_a (fun he => ev_callV (as := []) rfl (gr_ob (n := 5) hG (sh_Ck0 (el_Ck hx0 hc3).2)) rfl rfl rfl (Nat.le_of_ble_eq_true rfl) (Nat.le_of_ble_eq_true rfl) c7 he) ?_
        refine ev_b (c := y4 = 0) (fun ht hf => ev_ifeq rfl ht hf) (fun hc9 => ?_) (fun hc9 => ?_)
        · rw [if_pos hc9] at h
          exact TJ_X9_fillClocks_93 xs L N (H_X9_fillClocks_2 N n) hk2 x0 x1 (.ref (x0 + 40 + 2 * x1.toNatClampNeg)) σ5 q h hG8 hx0
        · rw [if_neg hc9] at h
          refine ev_a (fun he => ev_aload rfl rfl he) ?_
          refine ev_a (fun he => ev_aload rfl rfl he) ?_
          refine ev_a (fun he => ev_getI rfl (gr_ob (n := 9) hG8 (sh_Sale0 hx0)) he) ?_
          obtain ⟨σ10, e11, h⟩ := lt_inv h
          have hG12 : Gr σ10 := gr_wi e11 hG8
          refine ev_a (fun he => ev_putI rfl (gr_ob (n := 5) hG8 (sh_Ck0 (el_Ck hx0 hc3).2)) e11 he) ?_
          refine ev_a (fun he => ev_aload rfl rfl he) ?_
          refine ev_a (fun he => ev_aload rfl rfl he) ?_
          refine ev_a (fun he => ev_getR rfl (gr_ob (n := 9) hG12 (sh_Sale0 hx0)) (gr_p hG12 (gf_Sale1 hx0)) he) ?_
          refine ev_a (fun he => ev_aload rfl rfl he) ?_
          refine ev_a (fun he => ev_getI rfl (gr_ob (n := 9) hG12 (sh_Sale0 hx0)) he) ?_
          obtain ⟨hc13, h⟩ := cO_inv h
          refine ev_a (fun he => ev_aldR rfl (gr_ar hG12 (sh_Sale1 hx0)) (by decide) hc13 (gr_p hG12 (el_Ou hx0 hc13).1) he) ?_
          refine ev_a (fun he => ev_getI rfl (gr_ob (n := 8) hG12 (sh_Ou0 (el_Ou hx0 hc13).2)) he) ?_
          obtain ⟨σ14, e15, h⟩ := lt_inv h
          have hG16 : Gr σ14 := gr_wi e15 hG12
          refine ev_a (fun he => ev_putI rfl (gr_ob (n := 5) hG12 (sh_Ck0 (el_Ck hx0 hc3).2)) e15 he) ?_
          refine ev_a (fun he => ev_aload rfl rfl he) ?_
          refine ev_a (fun he => ev_aload rfl rfl he) ?_
          refine ev_a (fun he => ev_getR rfl (gr_ob (n := 9) hG16 (sh_Sale0 hx0)) (gr_p hG16 (gf_Sale1 hx0)) he) ?_
          refine ev_a (fun he => ev_aload rfl rfl he) ?_
          refine ev_a (fun he => ev_getI rfl (gr_ob (n := 9) hG16 (sh_Sale0 hx0)) he) ?_
          obtain ⟨hc17, h⟩ := cO_inv h
          refine ev_a (fun he => ev_aldR rfl (gr_ar hG16 (sh_Sale1 hx0)) (by decide) hc17 (gr_p hG16 (el_Ou hx0 hc17).1) he) ?_
          refine ev_a (fun he => ev_getI rfl (gr_ob (n := 8) hG16 (sh_Ou0 (el_Ou hx0 hc17).2)) he) ?_
          obtain ⟨σ18, e19, h⟩ := lt_inv h
          have hG20 : Gr σ18 := gr_wi e19 hG16
          refine ev_a (fun he => ev_putI rfl (gr_ob (n := 5) hG16 (sh_Ck0 (el_Ck hx0 hc3).2)) e19 he) ?_
          refine ev_a (fun he => ev_aload rfl rfl he) ?_
          refine ev_a (fun he => ev_aload rfl rfl he) ?_
          refine ev_a (fun he => ev_getI rfl (gr_ob (n := 9) hG20 (sh_Sale0 hx0)) he) ?_
          obtain ⟨σ21, e22, h⟩ := lt_inv h
          have hG23 : Gr σ21 := gr_wi e22 hG20
          refine ev_a (fun he => ev_putI rfl (gr_ob (n := 5) hG20 (sh_Ck0 (el_Ck hx0 hc3).2)) e22 he) ?_
          refine ev_a (fun he => ev_aload rfl rfl he) ?_
          refine ev_a (fun he => ev_dupR rfl he) ?_
          refine ev_a (fun he => ev_getI rfl (gr_ob (n := 9) hG23 (sh_Sale0 hx0)) he) ?_
          refine ev_a (fun he => ev_push rfl he) ?_
          refine ev_a (fun he => ev_bin (z := (aI σ21 x0 7) + 1) rfl rfl he) ?_
          obtain ⟨σ24, e25, h⟩ := lt_inv h
          have hG26 : Gr σ24 := gr_wi e25 hG23
          refine ev_a (fun he => ev_putI rfl (gr_ob (n := 9) hG23 (sh_Sale0 hx0)) e25 he) ?_
          exact TJ_X9_fillClocks_93 xs L N (H_X9_fillClocks_2 N n) hk2 x0 x1 (.ref (x0 + 40 + 2 * x1.toNatClampNeg)) σ24 q h hG26 hx0
def F_X9_fillClocks (N : Nat) (x0 : Nat) (σ : aSt) : Option (Unit × aSt) := H_X9_fillClocks_2 N N x0 0 σ
set_option maxRecDepth 20000 in
set_option maxHeartbeats 4000000 in
theorem T_X9_fillClocks (xs : Nat → Int32) (L : Nat) (N : Nat) (x0 : Nat) (σ : aSt) (q : Unit × aSt) (h : F_X9_fillClocks N x0 σ = some q) (hG : Gr σ) (hx0 : isSale x0) : Cal xs L 62 [.ref x0] σ (wV q.1) q.2 ∧ Gr q.2 := by
  have h : (H_X9_fillClocks_2 N N x0 0 σ) = some q := h
  show Ev xs L 62 0 [.ref x0, aU, aU] [] σ (wV q.1) q.2 ∧ Gr q.2
  refine ev_a (fun he => ev_push rfl he) ?_
  refine ev_a (fun he => ev_istore (ls' := [.ref x0, .int 0, aU]) rfl (Nat.le_of_ble_eq_true rfl) rfl he) ?_
  exact TH_X9_fillClocks_2 xs L N N x0 0 (aU) σ q h hG hx0
