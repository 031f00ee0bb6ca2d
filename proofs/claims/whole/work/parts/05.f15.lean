def J_X9_lowerClocks_88 (N : Nat) (k2 : Nat → Int32 → aSt → Option (Unit × aSt)) (x0 : Nat) (x1 : Int32) (σ : aSt) : Option (Unit × aSt) := k2 x0 (x1 + 1) σ
set_option maxRecDepth 20000 in
set_option maxHeartbeats 4000000 in
theorem TJ_X9_lowerClocks_88 (xs : Nat → Int32) (L : Nat) (N : Nat) (k2 : Nat → Int32 → aSt → Option (Unit × aSt)) (hk2 : ∀ (x0 : Nat) (x1 : Int32) (d2 : Value) (σ : aSt) (q : Unit × aSt), k2 x0 x1 σ = some q → Gr σ → isSale x0 → Ev xs L 68 2 [.ref x0, .int x1, d2] [] σ (wV q.1) q.2 ∧ Gr q.2) (x0 : Nat) (x1 : Int32) (d2 : Value) (σ : aSt) (q : Unit × aSt) (h : J_X9_lowerClocks_88 N k2 x0 x1 σ = some q) (hG : Gr σ) (hx0 : isSale x0) : Ev xs L 68 88 [.ref x0, .int x1, d2] [] σ (wV q.1) q.2 ∧ Gr q.2 := by
  have h : (k2 x0 (x1 + 1) σ) = some q := h
  refine ev_a (fun he => ev_iinc (ls' := [.ref x0, .int (x1 + 1), d2]) rfl rfl rfl (Nat.le_of_ble_eq_true rfl) rfl he) ?_
  refine ev_a (fun he => ev_goto rfl he) ?_
  exact hk2 x0 (x1 + 1) (d2) σ q h hG hx0
def H_X9_lowerClocks_2 (N : Nat) : Nat → Nat → Int32 → aSt → Option (Unit × aSt)
  | 0, _, _, _ => none
  | n + 1, x0, x1, σ => if 3 ≤ x1 then some ((), σ) else cO (¬ (x1 < 0 ∨ 3 ≤ x1.toNatClampNeg)) (oB (F_X1_isEmpty N (x0 + 40 + 2 * x1.toNatClampNeg) σ) fun y3 σ4 => if y3 ≠ 0 then J_X9_lowerClocks_88 N (H_X9_lowerClocks_2 N n) x0 x1 σ4 else if (aI σ4 (x0 + 40 + 2 * x1.toNatClampNeg) 2) < (aI σ4 (x0 + 40 + 2 * x1.toNatClampNeg) 1) then lt (aWI σ4 (x0 + 40 + 2 * x1.toNatClampNeg) 1 ((aI σ4 (x0 + 40 + 2 * x1.toNatClampNeg) 1) - 1)) fun σ10 => J_X9_lowerClocks_88 N (H_X9_lowerClocks_2 N n) x0 x1 σ10 else cO (¬ ((aI σ4 (x0 + 40 + 2 * x1.toNatClampNeg) 0) < 0 ∨ 24 ≤ (aI σ4 (x0 + 40 + 2 * x1.toNatClampNeg) 0).toNatClampNeg)) (cO (¬ ((aI σ4 (x0 + 40 + 2 * x1.toNatClampNeg) 0) < 0 ∨ 24 ≤ (aI σ4 (x0 + 40 + 2 * x1.toNatClampNeg) 0).toNatClampNeg)) (lt (aWI σ4 (x0 + 4 + (aI σ4 (x0 + 40 + 2 * x1.toNatClampNeg) 0).toNatClampNeg) 6 (((aI σ4 (x0 + 40 + 2 * x1.toNatClampNeg) 2) * (aI σ4 (23 + (aI σ4 (x0 + 40 + 2 * x1.toNatClampNeg) 0).toNatClampNeg) 3)) / 2)) fun σ16 => oB (F_X9_settle N x0 x1 (aI σ16 (x0 + 40 + 2 * x1.toNatClampNeg) 2) σ16) fun y19 σ20 => J_X9_lowerClocks_88 N (H_X9_lowerClocks_2 N n) x0 x1 σ20)))
set_option maxRecDepth 20000 in
set_option maxHeartbeats 4000000 in
theorem TH_X9_lowerClocks_2 (xs : Nat → Int32) (L : Nat) (N : Nat) : ∀ (n : Nat) (x0 : Nat) (x1 : Int32) (d2 : Value) (σ : aSt) (q : Unit × aSt), H_X9_lowerClocks_2 N n x0 x1 σ = some q → Gr σ → isSale x0 → Ev xs L 68 2 [.ref x0, .int x1, d2] [] σ (wV q.1) q.2 ∧ Gr q.2 := by
  intro n
  induction n with
  | zero =>
    intro x0 x1 d2 σ q h hG hx0
    exact absurd (show (none : Option (Unit × aSt)) = some q from h) (by simp)
  | succ n ih =>
    intro x0 x1 d2 σ q h hG hx0
    have hk2 : ∀ (x0 : Nat) (x1 : Int32) (d2 : Value) (σ : aSt) (q : Unit × aSt), H_X9_lowerClocks_2 N n x0 x1 σ = some q → Gr σ → isSale x0 → Ev xs L 68 2 [.ref x0, .int x1, d2] [] σ (wV q.1) q.2 ∧ Gr q.2 := ih
    have h : (if 3 ≤ x1 then some ((), σ) else cO (¬ (x1 < 0 ∨ 3 ≤ x1.toNatClampNeg)) (oB (F_X1_isEmpty N (x0 + 40 + 2 * x1.toNatClampNeg) σ) fun y3 σ4 => if y3 ≠ 0 then J_X9_lowerClocks_88 N (H_X9_lowerClocks_2 N n) x0 x1 σ4 else if (aI σ4 (x0 + 40 + 2 * x1.toNatClampNeg) 2) < (aI σ4 (x0 + 40 + 2 * x1.toNatClampNeg) 1) then lt (aWI σ4 (x0 + 40 + 2 * x1.toNatClampNeg) 1 ((aI σ4 (x0 + 40 + 2 * x1.toNatClampNeg) 1) - 1)) fun σ10 => J_X9_lowerClocks_88 N (H_X9_lowerClocks_2 N n) x0 x1 σ10 else cO (¬ ((aI σ4 (x0 + 40 + 2 * x1.toNatClampNeg) 0) < 0 ∨ 24 ≤ (aI σ4 (x0 + 40 + 2 * x1.toNatClampNeg) 0).toNatClampNeg)) (cO (¬ ((aI σ4 (x0 + 40 + 2 * x1.toNatClampNeg) 0) < 0 ∨ 24 ≤ (aI σ4 (x0 + 40 + 2 * x1.toNatClampNeg) 0).toNatClampNeg)) (lt (aWI σ4 (x0 + 4 + (aI σ4 (x0 + 40 + 2 * x1.toNatClampNeg) 0).toNatClampNeg) 6 (((aI σ4 (x0 + 40 + 2 * x1.toNatClampNeg) 2) * (aI σ4 (23 + (aI σ4 (x0 + 40 + 2 * x1.toNatClampNeg) 0).toNatClampNeg) 3)) / 2)) fun σ16 => oB (F_X9_settle N x0 x1 (aI σ16 (x0 + 40 + 2 * x1.toNatClampNeg) 2) σ16) fun y19 σ20 => J_X9_lowerClocks_88 N (H_X9_lowerClocks_2 N n) x0 x1 σ20)))) = some q := h
    refine ev_a (fun he => ev_iload rfl rfl he) ?_
    refine ev_a (fun he => ev_push rfl he) ?_
    refine ev_b (c := 3 ≤ x1) (fun ht hf => ev_cge rfl ht hf) (fun hc1 => ?_) (fun hc1 => ?_)
    · rw [if_pos hc1] at h
      cases h
      exact ⟨ev_retV rfl, hG⟩
    · rw [if_neg hc1] at h
      refine ev_a (fun he => ev_aload rfl rfl he) ?_
      refine ev_a (fun he => ev_getR rfl (gr_ob (n := 9) hG (sh_Sale0 hx0)) (gr_p hG (gf_Sale4 hx0)) he) ?_
      refine ev_a (fun he => ev_iload rfl rfl he) ?_
      obtain ⟨hc2, h⟩ := cO_inv h
      refine ev_a (fun he => ev_aldR rfl (gr_ar hG (sh_Sale3 hx0)) (by decide) hc2 (gr_p hG (el_Ck hx0 hc2).1) he) ?_
      refine ev_a (fun he => ev_astore (ls' := [.ref x0, .int x1, .ref (x0 + 40 + 2 * x1.toNatClampNeg)]) rfl (Nat.le_of_ble_eq_true rfl) rfl he) ?_
      refine ev_a (fun he => ev_aload rfl rfl he) ?_
      obtain ⟨y3, σ4, h5, h⟩ := oB_inv h
      obtain ⟨c6, hG7⟩ := T_X1_isEmpty xs L N (x0 + 40 + 2 * x1.toNatClampNeg) σ (y3, σ4) h5 hG (el_Ck hx0 hc2).2
      refine ev_a (fun he => ev_callV (as := []) rfl (gr_ob (n := 5) hG (sh_Ck0 (el_Ck hx0 hc2).2)) rfl rfl rfl (Nat.le_of_ble_eq_true rfl) (Nat.le_of_ble_eq_true rfl) c6 he) ?_
      refine ev_b (c := y3 ≠ 0) (fun ht hf => ev_ifne rfl ht hf) (fun hc8 => ?_) (fun hc8 => ?_)
      · rw [if_pos hc8] at h
        exact TJ_X9_lowerClocks_88 xs L N (H_X9_lowerClocks_2 N n) hk2 x0 x1 (.ref (x0 + 40 + 2 * x1.toNatClampNeg)) σ4 q h hG7 hx0
      · rw [if_neg hc8] at h
        refine ev_a (fun he => ev_aload rfl rfl he) ?_
        refine ev_a (fun he => ev_getI rfl (gr_ob (n := 5) hG7 (sh_Ck0 (el_Ck hx0 hc2).2)) he) ?_
        refine ev_a (fun he => ev_aload rfl rfl he) ?_
        refine ev_a (fun he => ev_getI rfl (gr_ob (n := 5) hG7 (sh_Ck0 (el_Ck hx0 hc2).2)) he) ?_
        refine ev_b (c := (aI σ4 (x0 + 40 + 2 * x1.toNatClampNeg) 2) < (aI σ4 (x0 + 40 + 2 * x1.toNatClampNeg) 1)) (fun ht hf => ev_cgt rfl ht hf) (fun hc9 => ?_) (fun hc9 => ?_)
        · rw [if_pos hc9] at h
          refine ev_a (fun he => ev_aload rfl rfl he) ?_
          refine ev_a (fun he => ev_dupR rfl he) ?_
          refine ev_a (fun he => ev_getI rfl (gr_ob (n := 5) hG7 (sh_Ck0 (el_Ck hx0 hc2).2)) he) ?_
          refine ev_a (fun he => ev_push rfl he) ?_
          refine ev_a (fun he => ev_bin (z := (aI σ4 (x0 + 40 + 2 * x1.toNatClampNeg) 1) - 1) rfl rfl he) ?_
          obtain ⟨σ10, e11, h⟩ := lt_inv h
          have hG12 : Gr σ10 := gr_wi e11 hG7
          refine ev_a (fun he => ev_putI rfl (gr_ob (n := 5) hG7 (sh_Ck0 (el_Ck hx0 hc2).2)) e11 he) ?_
          exact TJ_X9_lowerClocks_88 xs L N (H_X9_lowerClocks_2 N n) hk2 x0 x1 (.ref (x0 + 40 + 2 * x1.toNatClampNeg)) σ10 q h hG12 hx0
        · rw [if_neg hc9] at h
          refine ev_a (fun he => ev_aload rfl rfl he) ?_
          refine ev_a (fun he => ev_getR rfl (gr_ob (n := 9) hG7 (sh_Sale0 hx0)) (gr_p hG7 (gf_Sale1 hx0)) he) ?_
          refine ev_a (fun he => ev_aload rfl rfl he) ?_
          refine ev_a (fun he => ev_getI rfl (gr_ob (n := 5) hG7 (sh_Ck0 (el_Ck hx0 hc2).2)) he) ?_
          obtain ⟨hc13, h⟩ := cO_inv h
          refine ev_a (fun he => ev_aldR rfl (gr_ar hG7 (sh_Sale1 hx0)) (by decide) hc13 (gr_p hG7 (el_Ou hx0 hc13).1) he) ?_
          refine ev_a (fun he => ev_aload rfl rfl he) ?_
          refine ev_a (fun he => ev_getI rfl (gr_ob (n := 5) hG7 (sh_Ck0 (el_Ck hx0 hc2).2)) he) ?_
          refine ev_a (fun he => ev_aload rfl rfl he) ?_
          refine ev_a (fun he => ev_getR rfl (gr_ob (n := 9) hG7 (sh_Sale0 hx0)) (gr_p hG7 (gf_Sale0 hx0)) he) ?_
          refine ev_a (fun he => ev_getR rfl (gr_ob (n := 7) hG7 rfl) (gr_p (a := 11) (k := 0) (b := 12) hG7 rfl) he) ?_
          refine ev_a (fun he => ev_aload rfl rfl he) ?_
          refine ev_a (fun he => ev_getI rfl (gr_ob (n := 5) hG7 (sh_Ck0 (el_Ck hx0 hc2).2)) he) ?_
          obtain ⟨hc14, h⟩ := cO_inv h
          refine ev_a (fun he => ev_aldR rfl (gr_ar hG7 rfl) (by decide) hc14 (gr_p hG7 (el_Lo hc14).1) he) ?_
          refine ev_a (fun he => ev_getI rfl (gr_ob (n := 5) hG7 (sh_Lo0 (el_Lo hc14).2)) he) ?_
          refine ev_a (fun he => ev_bin (z := (aI σ4 (x0 + 40 + 2 * x1.toNatClampNeg) 2) * (aI σ4 (23 + (aI σ4 (x0 + 40 + 2 * x1.toNatClampNeg) 0).toNatClampNeg) 3)) rfl rfl he) ?_
          refine ev_a (fun he => ev_push rfl he) ?_
          refine ev_a (fun he => ev_div rfl (by decide) he) ?_
          obtain ⟨σ16, e17, h⟩ := lt_inv h
          have hG18 : Gr σ16 := gr_wi e17 hG7
          refine ev_a (fun he => ev_putI rfl (gr_ob (n := 8) hG7 (sh_Ou0 (el_Ou hx0 hc13).2)) e17 he) ?_
          refine ev_a (fun he => ev_aload rfl rfl he) ?_
          refine ev_a (fun he => ev_iload rfl rfl he) ?_
          refine ev_a (fun he => ev_aload rfl rfl he) ?_
          refine ev_a (fun he => ev_getI rfl (gr_ob (n := 5) hG18 (sh_Ck0 (el_Ck hx0 hc2).2)) he) ?_
          obtain ⟨y19, σ20, h21, h⟩ := oB_inv h
          obtain ⟨c22, hG23⟩ := T_X9_settle xs L N x0 x1 (aI σ16 (x0 + 40 + 2 * x1.toNatClampNeg) 2) σ16 (y19, σ20) h21 hG18 hx0
          refine ev_a (fun he => ev_callV (as := [.int x1, .int (aI σ16 (x0 + 40 + 2 * x1.toNatClampNeg) 2)]) rfl (gr_ob (n := 9) hG18 (sh_Sale0 hx0)) rfl rfl rfl (Nat.le_of_ble_eq_true rfl) (Nat.le_of_ble_eq_true rfl) c22 he) ?_
          refine ev_a (fun he => ev_goto rfl he) ?_
          exact TJ_X9_lowerClocks_88 xs L N (H_X9_lowerClocks_2 N n) hk2 x0 x1 (.ref (x0 + 40 + 2 * x1.toNatClampNeg)) σ20 q h hG23 hx0
def F_X9_lowerClocks (N : Nat) (x0 : Nat) (σ : aSt) : Option (Unit × aSt) := H_X9_lowerClocks_2 N N x0 0 σ
set_option maxRecDepth 20000 in
set_option maxHeartbeats 4000000 in
theorem T_X9_lowerClocks (xs : Nat → Int32) (L : Nat) (N : Nat) (x0 : Nat) (σ : aSt) (q : Unit × aSt) (h : F_X9_lowerClocks N x0 σ = some q) (hG : Gr σ) (hx0 : isSale x0) : Cal xs L 68 [.ref x0] σ (wV q.1) q.2 ∧ Gr q.2 := by
  have h : (H_X9_lowerClocks_2 N N x0 0 σ) = some q := h
  show Ev xs L 68 0 [.ref x0, aU, aU] [] σ (wV q.1) q.2 ∧ Gr q.2
  refine ev_a (fun he => ev_push rfl he) ?_
  refine ev_a (fun he => ev_istore (ls' := [.ref x0, .int 0, aU]) rfl (Nat.le_of_ble_eq_true rfl) rfl he) ?_
  exact TH_X9_lowerClocks_2 xs L N N x0 0 (aU) σ q h hG hx0
def J_X9_hold_68 (N : Nat) (σ : aSt) : Option (Unit × aSt) := some ((), σ)
set_option maxRecDepth 20000 in
set_option maxHeartbeats 4000000 in
theorem TJ_X9_hold_68 (xs : Nat → Int32) (L : Nat) (N : Nat) (d0 : Value) (d1 : Value) (d2 : Value) (σ : aSt) (q : Unit × aSt) (h : J_X9_hold_68 N  σ = some q) (hG : Gr σ) : Ev xs L 60 68 [d0, d1, d2] [] σ (wV q.1) q.2 ∧ Gr q.2 := by
  have h : (some ((), σ)) = some q := h
  cases h
  exact ⟨ev_retV rfl, hG⟩
def H_X9_hold_7 (N : Nat) : Nat → Nat → Int32 → aSt → Option (Unit × aSt)
  | 0, _, _, _ => none
  | n + 1, x0, x2, σ => if (aI σ 11 1) ≤ x2 then J_X9_hold_68 N σ else if (aI σ 11 1) ≤ (aI σ x0 8) then J_X9_hold_68 N σ else oB (F_X9_fillClocks N x0 σ) fun y3 σ4 => oB (F_X9_refreshLimits N x0 σ4) fun y8 σ9 => oB (F_X9_passQuietSeconds N x0 σ9) fun y13 σ14 => oB (F_X9_stopClocks N x0 σ14) fun y18 σ19 => oB (F_X9_lowerClocks N x0 σ19) fun y23 σ24 => lt (aWI σ24 x0 6 ((aI σ24 x0 6) + 1)) fun σ28 => (H_X9_hold_7 N n) x0 (x2 + 1) σ28
set_option maxRecDepth 20000 in
set_option maxHeartbeats 4000000 in
theorem TH_X9_hold_7 (xs : Nat → Int32) (L : Nat) (N : Nat) : ∀ (n : Nat) (x0 : Nat) (x2 : Int32) (d1 : Value) (σ : aSt) (q : Unit × aSt), H_X9_hold_7 N n x0 x2 σ = some q → Gr σ → isSale x0 → Ev xs L 60 7 [.ref x0, d1, .int x2] [] σ (wV q.1) q.2 ∧ Gr q.2 := by
  intro n
  induction n with
  | zero =>
    intro x0 x2 d1 σ q h hG hx0
    exact absurd (show (none : Option (Unit × aSt)) = some q from h) (by simp)
  | succ n ih =>
    intro x0 x2 d1 σ q h hG hx0
    have hk7 : ∀ (x0 : Nat) (x2 : Int32) (d1 : Value) (σ : aSt) (q : Unit × aSt), H_X9_hold_7 N n x0 x2 σ = some q → Gr σ → isSale x0 → Ev xs L 60 7 [.ref x0, d1, .int x2] [] σ (wV q.1) q.2 ∧ Gr q.2 := ih
    have h : (if (aI σ 11 1) ≤ x2 then J_X9_hold_68 N σ else if (aI σ 11 1) ≤ (aI σ x0 8) then J_X9_hold_68 N σ else oB (F_X9_fillClocks N x0 σ) fun y3 σ4 => oB (F_X9_refreshLimits N x0 σ4) fun y8 σ9 => oB (F_X9_passQuietSeconds N x0 σ9) fun y13 σ14 => oB (F_X9_stopClocks N x0 σ14) fun y18 σ19 => oB (F_X9_lowerClocks N x0 σ19) fun y23 σ24 => lt (aWI σ24 x0 6 ((aI σ24 x0 6) + 1)) fun σ28 => (H_X9_hold_7 N n) x0 (x2 + 1) σ28) = some q := h
    refine ev_a (fun he => ev_iload rfl rfl he) ?_
    refine ev_a (fun he => ev_aload rfl rfl he) ?_
    refine ev_a (fun he => ev_getR rfl (gr_ob (n := 9) hG (sh_Sale0 hx0)) (gr_p hG (gf_Sale0 hx0)) he) ?_
    refine ev_a (fun he => ev_getI rfl (gr_ob (n := 7) hG rfl) he) ?_
    refine ev_b (c := (aI σ 11 1) ≤ x2) (fun ht hf => ev_cge rfl ht hf) (fun hc1 => ?_) (fun hc1 => ?_)
    · rw [if_pos hc1] at h
      exact TJ_X9_hold_68 xs L N (.ref x0) (d1) (.int x2) σ q h hG
    · rw [if_neg hc1] at h
      refine ev_a (fun he => ev_aload rfl rfl he) ?_
      refine ev_a (fun he => ev_getI rfl (gr_ob (n := 9) hG (sh_Sale0 hx0)) he) ?_
      refine ev_a (fun he => ev_aload rfl rfl he) ?_
      refine ev_a (fun he => ev_getR rfl (gr_ob (n := 9) hG (sh_Sale0 hx0)) (gr_p hG (gf_Sale0 hx0)) he) ?_
      refine ev_a (fun he => ev_getI rfl (gr_ob (n := 7) hG rfl) he) ?_
      refine ev_b (c := (aI σ 11 1) ≤ (aI σ x0 8)) (fun ht hf => ev_cge rfl ht hf) (fun hc2 => ?_) (fun hc2 => ?_)
      · rw [if_pos hc2] at h
        exact TJ_X9_hold_68 xs L N (.ref x0) (d1) (.int x2) σ q h hG
      · rw [if_neg hc2] at h
        refine ev_a (fun he => ev_aload rfl rfl he) ?_
        obtain ⟨y3, σ4, h5, h⟩ := oB_inv h
        obtain ⟨c6, hG7⟩ := T_X9_fillClocks xs L N x0 σ (y3, σ4) h5 hG hx0
        refine ev_a (fun he => ev_callV (as := []) rfl (gr_ob (n := 9) hG (sh_Sale0 hx0)) rfl rfl rfl (Nat.le_of_ble_eq_true rfl) (Nat.le_of_ble_eq_true rfl) c6 he) ?_
        refine ev_a (fun he => ev_aload rfl rfl he) ?_
        obtain ⟨y8, σ9, h10, h⟩ := oB_inv h
        obtain ⟨c11, hG12⟩ := T_X9_refreshLimits xs L N x0 σ4 (y8, σ9) h10 hG7 hx0
        refine ev_a (fun he => ev_callV (as := []) rfl (gr_ob (n := 9) hG7 (sh_Sale0 hx0)) rfl rfl rfl (Nat.le_of_ble_eq_true rfl) (Nat.le_of_ble_eq_true rfl) c11 he) ?_
        refine ev_a (fun he => ev_aload rfl rfl he) ?_
        obtain ⟨y13, σ14, h15, h⟩ := oB_inv h
        obtain ⟨c16, hG17⟩ := T_X9_passQuietSeconds xs L N x0 σ9 (y13, σ14) h15 hG12 hx0
        refine ev_a (fun he => ev_callV (as := []) rfl (gr_ob (n := 9) hG12 (sh_Sale0 hx0)) rfl rfl rfl (Nat.le_of_ble_eq_true rfl) (Nat.le_of_ble_eq_true rfl) c16 he) ?_
        refine ev_a (fun he => ev_aload rfl rfl he) ?_
        obtain ⟨y18, σ19, h20, h⟩ := oB_inv h
        obtain ⟨c21, hG22⟩ := T_X9_stopClocks xs L N x0 σ14 (y18, σ19) h20 hG17 hx0
        refine ev_a (fun he => ev_callV (as := []) rfl (gr_ob (n := 9) hG17 (sh_Sale0 hx0)) rfl rfl rfl (Nat.le_of_ble_eq_true rfl) (Nat.le_of_ble_eq_true rfl) c21 he) ?_
        refine ev_a (fun he => ev_aload rfl rfl he) ?_
        obtain ⟨y23, σ24, h25, h⟩ := oB_inv h
        obtain ⟨c26, hG27⟩ := T_X9_lowerClocks xs L N x0 σ19 (y23, σ24) h25 hG22 hx0
        refine ev_a (fun he => ev_callV (as := []) rfl (gr_ob (n := 9) hG22 (sh_Sale0 hx0)) rfl rfl rfl (Nat.le_of_ble_eq_true rfl) (Nat.le_of_ble_eq_true rfl) c26 he) ?_
        refine ev_a (fun he => ev_aload rfl rfl he) ?_
        refine ev_a (fun he => ev_dupR rfl he) ?_
        refine ev_a (fun he => ev_getI rfl (gr_ob (n := 9) hG27 (sh_Sale0 hx0)) he) ?_
        refine ev_a (fun he => ev_push rfl he) ?_
        refine ev_a (fun he => ev_bin (z := (aI σ24 x0 6) + 1) rfl rfl he) ?_
        obtain ⟨σ28, e29, h⟩ := lt_inv h
        have hG30 : Gr σ28 := gr_wi e29 hG27
        refine ev_a (fun he => ev_putI rfl (gr_ob (n := 9) hG27 (sh_Sale0 hx0)) e29 he) ?_
        refine ev_a (fun he => ev_iinc (ls' := [.ref x0, (aKl d1), .int (x2 + 1)]) rfl rfl rfl (Nat.le_of_ble_eq_true rfl) rfl he) ?_
        refine ev_a (fun he => ev_goto rfl he) ?_
        exact hk7 x0 (x2 + 1) ((aKl d1)) σ28 q h hG30 hx0
def F_X9_hold (N : Nat) (x0 : Nat) (x1 : Int32) (σ : aSt) : Option (Unit × aSt) := oB (F_X9_begin N x0 x1 σ) fun y31 σ32 => H_X9_hold_7 N N x0 0 σ32
set_option maxRecDepth 20000 in
set_option maxHeartbeats 4000000 in
theorem T_X9_hold (xs : Nat → Int32) (L : Nat) (N : Nat) (x0 : Nat) (x1 : Int32) (σ : aSt) (q : Unit × aSt) (h : F_X9_hold N x0 x1 σ = some q) (hG : Gr σ) (hx0 : isSale x0) : Cal xs L 60 [.ref x0, .int x1] σ (wV q.1) q.2 ∧ Gr q.2 := by
  have h : (oB (F_X9_begin N x0 x1 σ) fun y31 σ32 => H_X9_hold_7 N N x0 0 σ32) = some q := h
  show Ev xs L 60 0 [.ref x0, .int x1, aU] [] σ (wV q.1) q.2 ∧ Gr q.2
  refine ev_a (fun he => ev_aload rfl rfl he) ?_
  refine ev_a (fun he => ev_iload rfl rfl he) ?_
  obtain ⟨y31, σ32, h33, h⟩ := oB_inv h
  obtain ⟨c34, hG35⟩ := T_X9_begin xs L N x0 x1 σ (y31, σ32) h33 hG hx0
  refine ev_a (fun he => ev_callV (as := [.int x1]) rfl (gr_ob (n := 9) hG (sh_Sale0 hx0)) rfl rfl rfl (Nat.le_of_ble_eq_true rfl) (Nat.le_of_ble_eq_true rfl) c34 he) ?_
  refine ev_a (fun he => ev_push rfl he) ?_
  refine ev_a (fun he => ev_istore (ls' := [.ref x0, .int x1, .int 0]) rfl (Nat.le_of_ble_eq_true rfl) rfl he) ?_
  exact TH_X9_hold_7 xs L N N x0 0 (.int x1) σ32 q h hG35 hx0
def J_X9_isLater_38 (N : Nat) (s0 : Int32) (σ : aSt) : Option (Int32 × aSt) := cO (vp_nar .boolean s0 = s0) (some (s0, σ))
set_option maxRecDepth 20000 in
set_option maxHeartbeats 4000000 in
theorem TJ_X9_isLater_38 (xs : Nat → Int32) (L : Nat) (N : Nat) (s0 : Int32) (d0 : Value) (d1 : Value) (σ : aSt) (q : Int32 × aSt) (h : J_X9_isLater_38 N s0 σ = some q) (hG : Gr σ) : Ev xs L 72 38 [d0, d1] [.int s0] σ (wI q.1) q.2 ∧ Gr q.2 := by
  have h : (cO (vp_nar .boolean s0 = s0) (some (s0, σ))) = some q := h
  obtain ⟨hc1, h⟩ := cO_inv h
  cases h
  exact ⟨ev_retZ rfl hc1, hG⟩
def J_X9_isLater_33 (N : Nat) (σ : aSt) : Option (Int32 × aSt) := J_X9_isLater_38 N 1 σ
set_option maxRecDepth 20000 in
set_option maxHeartbeats 4000000 in
theorem TJ_X9_isLater_33 (xs : Nat → Int32) (L : Nat) (N : Nat) (d0 : Value) (d1 : Value) (σ : aSt) (q : Int32 × aSt) (h : J_X9_isLater_33 N  σ = some q) (hG : Gr σ) : Ev xs L 72 33 [d0, d1] [] σ (wI q.1) q.2 ∧ Gr q.2 := by
  have h : (J_X9_isLater_38 N 1 σ) = some q := h
  refine ev_a (fun he => ev_push rfl he) ?_
  refine ev_a (fun he => ev_goto rfl he) ?_
  exact TJ_X9_isLater_38 xs L N 1 (d0) (d1) σ q h hG
def J_X9_isLater_37 (N : Nat) (σ : aSt) : Option (Int32 × aSt) := J_X9_isLater_38 N 0 σ
set_option maxRecDepth 20000 in
set_option maxHeartbeats 4000000 in
theorem TJ_X9_isLater_37 (xs : Nat → Int32) (L : Nat) (N : Nat) (d0 : Value) (d1 : Value) (σ : aSt) (q : Int32 × aSt) (h : J_X9_isLater_37 N  σ = some q) (hG : Gr σ) : Ev xs L 72 37 [d0, d1] [] σ (wI q.1) q.2 ∧ Gr q.2 := by
  have h : (J_X9_isLater_38 N 0 σ) = some q := h
  refine ev_a (fun he => ev_push rfl he) ?_
  exact TJ_X9_isLater_38 xs L N 0 (d0) (d1) σ q h hG
def F_X9_isLater (N : Nat) (x0 : Nat) (x1 : Nat) (σ : aSt) : Option (Int32 × aSt) := if (aI σ x1 2) < (aI σ x0 2) then J_X9_isLater_33 N σ else if (aI σ x0 2) ≠ (aI σ x1 2) then J_X9_isLater_37 N σ else if (aI σ x1 3) ≤ (aI σ x0 3) then J_X9_isLater_37 N σ else J_X9_isLater_33 N σ
set_option maxRecDepth 20000 in
set_option maxHeartbeats 4000000 in
theorem T_X9_isLater (xs : Nat → Int32) (L : Nat) (N : Nat) (x0 : Nat) (x1 : Nat) (σ : aSt) (q : Int32 × aSt) (h : F_X9_isLater N x0 x1 σ = some q) (hG : Gr σ) (hx0 : isOu x0) (hx1 : isOu x1) : Cal xs L 72 [.ref x0, .ref x1] σ (wI q.1) q.2 ∧ Gr q.2 := by
  have h : (if (aI σ x1 2) < (aI σ x0 2) then J_X9_isLater_33 N σ else if (aI σ x0 2) ≠ (aI σ x1 2) then J_X9_isLater_37 N σ else if (aI σ x1 3) ≤ (aI σ x0 3) then J_X9_isLater_37 N σ else J_X9_isLater_33 N σ) = some q := h
  show Ev xs L 72 0 [.ref x0, .ref x1] [] σ (wI q.1) q.2 ∧ Gr q.2
  refine ev_a (fun he => ev_aload rfl rfl he) ?_
  refine ev_a (fun he => ev_getI rfl (gr_ob (n := 8) hG (sh_Ou0 hx0)) he) ?_
  refine ev_a (fun he => ev_aload rfl rfl he) ?_
  refine ev_a (fun he => ev_getI rfl (gr_ob (n := 8) hG (sh_Ou0 hx1)) he) ?_
  refine ev_b (c := (aI σ x1 2) < (aI σ x0 2)) (fun ht hf => ev_cgt rfl ht hf) (fun hc2 => ?_) (fun hc2 => ?_)
  · rw [if_pos hc2] at h
    exact TJ_X9_isLater_33 xs L N (.ref x0) (.ref x1) σ q h hG
  · rw [if_neg hc2] at h
    refine ev_a (fun he => ev_aload rfl rfl he) ?_
    refine ev_a (fun he => ev_getI rfl (gr_ob (n := 8) hG (sh_Ou0 hx0)) he) ?_
    refine ev_a (fun he => ev_aload rfl rfl he) ?_
    refine ev_a (fun he => ev_getI rfl (gr_ob (n := 8) hG (sh_Ou0 hx1)) he) ?_
    refine ev_b (c := (aI σ x0 2) ≠ (aI σ x1 2)) (fun ht hf => ev_cne rfl ht hf) (fun hc3 => ?_) (fun hc3 => ?_)
    · rw [if_pos hc3] at h
      exact TJ_X9_isLater_37 xs L N (.ref x0) (.ref x1) σ q h hG
    · rw [if_neg hc3] at h
      refine ev_a (fun he => ev_aload rfl rfl he) ?_
      refine ev_a (fun he => ev_getI rfl (gr_ob (n := 8) hG (sh_Ou0 hx0)) he) ?_
      refine ev_a (fun he => ev_aload rfl rfl he) ?_
      refine ev_a (fun he => ev_getI rfl (gr_ob (n := 8) hG (sh_Ou0 hx1)) he) ?_
      refine ev_b (c := (aI σ x1 3) ≤ (aI σ x0 3)) (fun ht hf => ev_cge rfl ht hf) (fun hc4 => ?_) (fun hc4 => ?_)
      · rw [if_pos hc4] at h
        exact TJ_X9_isLater_37 xs L N (.ref x0) (.ref x1) σ q h hG
      · rw [if_neg hc4] at h
        exact TJ_X9_isLater_33 xs L N (.ref x0) (.ref x1) σ q h hG
def J_X9_soldLast_80 (N : Nat) (k4 : Nat → Int32 → Int32 → Int32 → aSt → Option (Int32 × aSt)) (x0 : Nat) (x1 : Int32) (x2 : Int32) (x3 : Int32) (σ : aSt) : Option (Int32 × aSt) := k4 x0 x1 x2 (x3 + 1) σ
set_option maxRecDepth 20000 in
set_option maxHeartbeats 4000000 in
theorem TJ_X9_soldLast_80 (xs : Nat → Int32) (L : Nat) (N : Nat) (k4 : Nat → Int32 → Int32 → Int32 → aSt → Option (Int32 × aSt)) (hk4 : ∀ (x0 : Nat) (x1 : Int32) (x2 : Int32) (x3 : Int32) (d4 : Value) (σ : aSt) (q : Int32 × aSt), k4 x0 x1 x2 x3 σ = some q → Gr σ → isSale x0 → Ev xs L 71 4 [.ref x0, .int x1, .int x2, .int x3, d4] [] σ (wI q.1) q.2 ∧ Gr q.2) (x0 : Nat) (x1 : Int32) (x2 : Int32) (x3 : Int32) (d4 : Value) (σ : aSt) (q : Int32 × aSt) (h : J_X9_soldLast_80 N k4 x0 x1 x2 x3 σ = some q) (hG : Gr σ) (hx0 : isSale x0) : Ev xs L 71 80 [.ref x0, .int x1, .int x2, .int x3, d4] [] σ (wI q.1) q.2 ∧ Gr q.2 := by
  have h : (k4 x0 x1 x2 (x3 + 1) σ) = some q := h
  refine ev_a (fun he => ev_iinc (ls' := [.ref x0, .int x1, .int x2, .int (x3 + 1), d4]) rfl rfl rfl (Nat.le_of_ble_eq_true rfl) rfl he) ?_
  refine ev_a (fun he => ev_goto rfl he) ?_
  exact hk4 x0 x1 x2 (x3 + 1) (d4) σ q h hG hx0
def J_X9_soldLast_78 (N : Nat) (k4 : Nat → Int32 → Int32 → Int32 → aSt → Option (Int32 × aSt)) (x0 : Nat) (x1 : Int32) (x3 : Int32) (σ : aSt) : Option (Int32 × aSt) := J_X9_soldLast_80 N k4 x0 x1 x3 x3 σ
set_option maxRecDepth 20000 in
set_option maxHeartbeats 4000000 in
theorem TJ_X9_soldLast_78 (xs : Nat → Int32) (L : Nat) (N : Nat) (k4 : Nat → Int32 → Int32 → Int32 → aSt → Option (Int32 × aSt)) (hk4 : ∀ (x0 : Nat) (x1 : Int32) (x2 : Int32) (x3 : Int32) (d4 : Value) (σ : aSt) (q : Int32 × aSt), k4 x0 x1 x2 x3 σ = some q → Gr σ → isSale x0 → Ev xs L 71 4 [.ref x0, .int x1, .int x2, .int x3, d4] [] σ (wI q.1) q.2 ∧ Gr q.2) (x0 : Nat) (x1 : Int32) (x3 : Int32) (d2 : Value) (d4 : Value) (σ : aSt) (q : Int32 × aSt) (h : J_X9_soldLast_78 N k4 x0 x1 x3 σ = some q) (hG : Gr σ) (hx0 : isSale x0) : Ev xs L 71 78 [.ref x0, .int x1, d2, .int x3, d4] [] σ (wI q.1) q.2 ∧ Gr q.2 := by
  have h : (J_X9_soldLast_80 N k4 x0 x1 x3 x3 σ) = some q := h
  refine ev_a (fun he => ev_iload rfl rfl he) ?_
  refine ev_a (fun he => ev_istore (ls' := [.ref x0, .int x1, .int x3, .int x3, d4]) rfl (Nat.le_of_ble_eq_true rfl) rfl he) ?_
  exact TJ_X9_soldLast_80 xs L N k4 hk4 x0 x1 x3 x3 (d4) σ q h hG hx0
def J_X9_soldLast_48 (N : Nat) (k4 : Nat → Int32 → Int32 → Int32 → aSt → Option (Int32 × aSt)) (x0 : Nat) (x1 : Int32) (x2 : Int32) (x3 : Int32) (s0 : Int32) (σ : aSt) : Option (Int32 × aSt) := if s0 = 0 then J_X9_soldLast_80 N k4 x0 x1 x2 x3 σ else if x2 = ((-1)) then J_X9_soldLast_78 N k4 x0 x1 x3 σ else cO (¬ (x3 < 0 ∨ 24 ≤ x3.toNatClampNeg)) (cO (¬ (x2 < 0 ∨ 24 ≤ x2.toNatClampNeg)) (oB (F_X9_isLater N (x0 + 4 + x3.toNatClampNeg) (x0 + 4 + x2.toNatClampNeg) σ) fun y5 σ6 => if y5 = 0 then J_X9_soldLast_80 N k4 x0 x1 x2 x3 σ6 else J_X9_soldLast_78 N k4 x0 x1 x3 σ6))
set_option maxRecDepth 20000 in
set_option maxHeartbeats 4000000 in
theorem TJ_X9_soldLast_48 (xs : Nat → Int32) (L : Nat) (N : Nat) (k4 : Nat → Int32 → Int32 → Int32 → aSt → Option (Int32 × aSt)) (hk4 : ∀ (x0 : Nat) (x1 : Int32) (x2 : Int32) (x3 : Int32) (d4 : Value) (σ : aSt) (q : Int32 × aSt), k4 x0 x1 x2 x3 σ = some q → Gr σ → isSale x0 → Ev xs L 71 4 [.ref x0, .int x1, .int x2, .int x3, d4] [] σ (wI q.1) q.2 ∧ Gr q.2) (x0 : Nat) (x1 : Int32) (x2 : Int32) (x3 : Int32) (s0 : Int32) (d4 : Value) (σ : aSt) (q : Int32 × aSt) (h : J_X9_soldLast_48 N k4 x0 x1 x2 x3 s0 σ = some q) (hG : Gr σ) (hx0 : isSale x0) : Ev xs L 71 48 [.ref x0, .int x1, .int x2, .int x3, d4] [.int s0] σ (wI q.1) q.2 ∧ Gr q.2 := by
  have h : (if s0 = 0 then J_X9_soldLast_80 N k4 x0 x1 x2 x3 σ else if x2 = ((-1)) then J_X9_soldLast_78 N k4 x0 x1 x3 σ else cO (¬ (x3 < 0 ∨ 24 ≤ x3.toNatClampNeg)) (cO (¬ (x2 < 0 ∨ 24 ≤ x2.toNatClampNeg)) (oB (F_X9_isLater N (x0 + 4 + x3.toNatClampNeg) (x0 + 4 + x2.toNatClampNeg) σ) fun y5 σ6 => if y5 = 0 then J_X9_soldLast_80 N k4 x0 x1 x2 x3 σ6 else J_X9_soldLast_78 N k4 x0 x1 x3 σ6))) = some q := h
  refine ev_a (fun he => ev_istore (ls' := [.ref x0, .int x1, .int x2, .int x3, .int s0]) rfl (Nat.le_of_ble_eq_true rfl) rfl he) ?_
  refine ev_a (fun he => ev_iload rfl rfl he) ?_
  refine ev_b (c := s0 = 0) (fun ht hf => ev_ifeq rfl ht hf) (fun hc1 => ?_) (fun hc1 => ?_)
  · rw [if_pos hc1] at h
    exact TJ_X9_soldLast_80 xs L N k4 hk4 x0 x1 x2 x3 (.int s0) σ q h hG hx0
  · rw [if_neg hc1] at h
    refine ev_a (fun he => ev_iload rfl rfl he) ?_
    refine ev_a (fun he => ev_push rfl he) ?_
    refine ev_b (c := x2 = ((-1))) (fun ht hf => ev_ceq rfl ht hf) (fun hc2 => ?_) (fun hc2 => ?_)
    · rw [if_pos hc2] at h
      exact TJ_X9_soldLast_78 xs L N k4 hk4 x0 x1 x3 (.int x2) (.int s0) σ q h hG hx0
    · rw [if_neg hc2] at h
      refine ev_a (fun he => ev_aload rfl rfl he) ?_
      refine ev_a (fun he => ev_getR rfl (gr_ob (n := 9) hG (sh_Sale0 hx0)) (gr_p hG (gf_Sale1 hx0)) he) ?_
      refine ev_a (fun he => ev_iload rfl rfl he) ?_
      obtain ⟨hc3, h⟩ := cO_inv h
      refine ev_a (fun he => ev_aldR rfl (gr_ar hG (sh_Sale1 hx0)) (by decide) hc3 (gr_p hG (el_Ou hx0 hc3).1) he) ?_
      refine ev_a (fun he => ev_aload rfl rfl he) ?_
      refine ev_a (fun he => ev_getR rfl (gr_ob (n := 9) hG (sh_Sale0 hx0)) (gr_p hG (gf_Sale1 hx0)) he) ?_
      refine ev_a (fun he => ev_iload rfl rfl he) ?_
      obtain ⟨hc4, h⟩ := cO_inv h
      refine ev_a (fun he => ev_aldR rfl (gr_ar hG (sh_Sale1 hx0)) (by decide) hc4 (gr_p hG (el_Ou hx0 hc4).1) he) ?_
      obtain ⟨y5, σ6, h7, h⟩ := oB_inv h
      obtain ⟨c8, hG9⟩ := T_X9_isLater xs L N (x0 + 4 + x3.toNatClampNeg) (x0 + 4 + x2.toNatClampNeg) σ (y5, σ6) h7 hG (el_Ou hx0 hc3).2 (el_Ou hx0 hc4).2
      refine ev_a (fun he => ev_callS (as := [.ref (x0 + 4 + x3.toNatClampNeg), .ref (x0 + 4 + x2.toNatClampNeg)]) rfl rfl rfl rfl (Nat.le_of_ble_eq_true rfl) (Nat.le_of_ble_eq_true rfl) c8 he) ?_
      refine ev_b (c := y5 = 0) (fun ht hf => ev_ifeq rfl ht hf) (fun hc10 => ?_) (fun hc10 => ?_)
      · rw [if_pos hc10] at h
        exact TJ_X9_soldLast_80 xs L N k4 hk4 x0 x1 x2 x3 (.int s0) σ6 q h hG9 hx0
      · rw [if_neg hc10] at h
        exact TJ_X9_soldLast_78 xs L N k4 hk4 x0 x1 x3 (.int x2) (.int s0) σ6 q h hG9 hx0
def J_X9_soldLast_47 (N : Nat) (k4 : Nat → Int32 → Int32 → Int32 → aSt → Option (Int32 × aSt)) (x0 : Nat) (x1 : Int32) (x2 : Int32) (x3 : Int32) (σ : aSt) : Option (Int32 × aSt) := J_X9_soldLast_48 N k4 x0 x1 x2 x3 0 σ
set_option maxRecDepth 20000 in
set_option maxHeartbeats 4000000 in
theorem TJ_X9_soldLast_47 (xs : Nat → Int32) (L : Nat) (N : Nat) (k4 : Nat → Int32 → Int32 → Int32 → aSt → Option (Int32 × aSt)) (hk4 : ∀ (x0 : Nat) (x1 : Int32) (x2 : Int32) (x3 : Int32) (d4 : Value) (σ : aSt) (q : Int32 × aSt), k4 x0 x1 x2 x3 σ = some q → Gr σ → isSale x0 → Ev xs L 71 4 [.ref x0, .int x1, .int x2, .int x3, d4] [] σ (wI q.1) q.2 ∧ Gr q.2) (x0 : Nat) (x1 : Int32) (x2 : Int32) (x3 : Int32) (d4 : Value) (σ : aSt) (q : Int32 × aSt) (h : J_X9_soldLast_47 N k4 x0 x1 x2 x3 σ = some q) (hG : Gr σ) (hx0 : isSale x0) : Ev xs L 71 47 [.ref x0, .int x1, .int x2, .int x3, d4] [] σ (wI q.1) q.2 ∧ Gr q.2 := by
  have h : (J_X9_soldLast_48 N k4 x0 x1 x2 x3 0 σ) = some q := h
  refine ev_a (fun he => ev_push rfl he) ?_
  exact TJ_X9_soldLast_48 xs L N k4 hk4 x0 x1 x2 x3 0 (d4) σ q h hG hx0
def H_X9_soldLast_4 (N : Nat) : Nat → Nat → Int32 → Int32 → Int32 → aSt → Option (Int32 × aSt)
  | 0, _, _, _, _, _ => none
  | n + 1, x0, x1, x2, x3, σ => if (aI σ 11 1) ≤ x3 then some (x2, σ) else cO (¬ (x3 < 0 ∨ 24 ≤ x3.toNatClampNeg)) (if (aI σ (23 + x3.toNatClampNeg) 1) ≠ x1 then J_X9_soldLast_47 N (H_X9_soldLast_4 N n) x0 x1 x2 x3 σ else cO (¬ (x3 < 0 ∨ 24 ≤ x3.toNatClampNeg)) (oB (F_X6_isSold N (x0 + 4 + x3.toNatClampNeg) σ) fun y15 σ16 => if y15 = 0 then J_X9_soldLast_47 N (H_X9_soldLast_4 N n) x0 x1 x2 x3 σ16 else J_X9_soldLast_48 N (H_X9_soldLast_4 N n) x0 x1 x2 x3 1 σ16))
set_option maxRecDepth 20000 in
set_option maxHeartbeats 4000000 in
theorem TH_X9_soldLast_4 (xs : Nat → Int32) (L : Nat) (N : Nat) : ∀ (n : Nat) (x0 : Nat) (x1 : Int32) (x2 : Int32) (x3 : Int32) (d4 : Value) (σ : aSt) (q : Int32 × aSt), H_X9_soldLast_4 N n x0 x1 x2 x3 σ = some q → Gr σ → isSale x0 → Ev xs L 71 4 [.ref x0, .int x1, .int x2, .int x3, d4] [] σ (wI q.1) q.2 ∧ Gr q.2 := by
  intro n
  induction n with
  | zero =>
    intro x0 x1 x2 x3 d4 σ q h hG hx0
    exact absurd (show (none : Option (Int32 × aSt)) = some q from h) (by simp)
  | succ n ih =>
    intro x0 x1 x2 x3 d4 σ q h hG hx0
    have hk4 : ∀ (x0 : Nat) (x1 : Int32) (x2 : Int32) (x3 : Int32) (d4 : Value) (σ : aSt) (q : Int32 × aSt), H_X9_soldLast_4 N n x0 x1 x2 x3 σ = some q → Gr σ → isSale x0 → Ev xs L 71 4 [.ref x0, .int x1, .int x2, .int x3, d4] [] σ (wI q.1) q.2 ∧ Gr q.2 := ih
    have h : (if (aI σ 11 1) ≤ x3 then some (x2, σ) else cO (¬ (x3 < 0 ∨ 24 ≤ x3.toNatClampNeg)) (if (aI σ (23 + x3.toNatClampNeg) 1) ≠ x1 then J_X9_soldLast_47 N (H_X9_soldLast_4 N n) x0 x1 x2 x3 σ else cO (¬ (x3 < 0 ∨ 24 ≤ x3.toNatClampNeg)) (oB (F_X6_isSold N (x0 + 4 + x3.toNatClampNeg) σ) fun y15 σ16 => if y15 = 0 then J_X9_soldLast_47 N (H_X9_soldLast_4 N n) x0 x1 x2 x3 σ16 else J_X9_soldLast_48 N (H_X9_soldLast_4 N n) x0 x1 x2 x3 1 σ16))) = some q := h
    refine ev_a (fun he => ev_iload rfl rfl he) ?_
    refine ev_a (fun he => ev_aload rfl rfl he) ?_
    refine ev_a (fun he => ev_getR rfl (gr_ob (n := 9) hG (sh_Sale0 hx0)) (gr_p hG (gf_Sale0 hx0)) he) ?_
    refine ev_a (fun he => ev_getI rfl (gr_ob (n := 7) hG rfl) he) ?_
    refine ev_b (c := (aI σ 11 1) ≤ x3) (fun ht hf => ev_cge rfl ht hf) (fun hc11 => ?_) (fun hc11 => ?_)
    · rw [if_pos hc11] at h
      refine ev_a (fun he => ev_iload rfl rfl he) ?_
      cases h
      exact ⟨ev_retI rfl, hG⟩
    · rw [if_neg hc11] at h
      refine ev_a (fun he => ev_aload rfl rfl he) ?_
      refine ev_a (fun he => ev_getR rfl (gr_ob (n := 9) hG (sh_Sale0 hx0)) (gr_p hG (gf_Sale0 hx0)) he) ?_
      refine ev_a (fun he => ev_getR rfl (gr_ob (n := 7) hG rfl) (gr_p (a := 11) (k := 0) (b := 12) hG rfl) he) ?_
      refine ev_a (fun he => ev_iload rfl rfl he) ?_
      obtain ⟨hc12, h⟩ := cO_inv h
      refine ev_a (fun he => ev_aldR rfl (gr_ar hG rfl) (by decide) hc12 (gr_p hG (el_Lo hc12).1) he) ?_
      refine ev_a (fun he => ev_getI rfl (gr_ob (n := 5) hG (sh_Lo0 (el_Lo hc12).2)) he) ?_
      refine ev_a (fun he => ev_iload rfl rfl he) ?_
      refine ev_b (c := (aI σ (23 + x3.toNatClampNeg) 1) ≠ x1) (fun ht hf => ev_cne rfl ht hf) (fun hc13 => ?_) (fun hc13 => ?_)
      · rw [if_pos hc13] at h
        exact TJ_X9_soldLast_47 xs L N (H_X9_soldLast_4 N n) hk4 x0 x1 x2 x3 (d4) σ q h hG hx0
      · rw [if_neg hc13] at h
        refine ev_a (fun he => ev_aload rfl rfl he) ?_
        refine ev_a (fun he => ev_getR rfl (gr_ob (n := 9) hG (sh_Sale0 hx0)) (gr_p hG (gf_Sale1 hx0)) he) ?_
        refine ev_a (fun he => ev_iload rfl rfl he) ?_
        obtain ⟨hc14, h⟩ := cO_inv h
        refine ev_a (fun he => ev_aldR rfl (gr_ar hG (sh_Sale1 hx0)) (by decide) hc14 (gr_p hG (el_Ou hx0 hc14).1) he) ?_
        obtain ⟨y15, σ16, h17, h⟩ := oB_inv h
        obtain ⟨c18, hG19⟩ := T_X6_isSold xs L N (x0 + 4 + x3.toNatClampNeg) σ (y15, σ16) h17 hG (el_Ou hx0 hc14).2
        refine ev_a (fun he => ev_callV (as := []) rfl (gr_ob (n := 8) hG (sh_Ou0 (el_Ou hx0 hc14).2)) rfl rfl rfl (Nat.le_of_ble_eq_true rfl) (Nat.le_of_ble_eq_true rfl) c18 he) ?_
        refine ev_b (c := y15 = 0) (fun ht hf => ev_ifeq rfl ht hf) (fun hc20 => ?_) (fun hc20 => ?_)
        · rw [if_pos hc20] at h
          exact TJ_X9_soldLast_47 xs L N (H_X9_soldLast_4 N n) hk4 x0 x1 x2 x3 (d4) σ16 q h hG19 hx0
        · rw [if_neg hc20] at h
          refine ev_a (fun he => ev_push rfl he) ?_
          refine ev_a (fun he => ev_goto rfl he) ?_
          exact TJ_X9_soldLast_48 xs L N (H_X9_soldLast_4 N n) hk4 x0 x1 x2 x3 1 (d4) σ16 q h hG19 hx0
def F_X9_soldLast (N : Nat) (x0 : Nat) (x1 : Int32) (σ : aSt) : Option (Int32 × aSt) := H_X9_soldLast_4 N N x0 x1 ((-1)) 0 σ
set_option maxRecDepth 20000 in
set_option maxHeartbeats 4000000 in
theorem T_X9_soldLast (xs : Nat → Int32) (L : Nat) (N : Nat) (x0 : Nat) (x1 : Int32) (σ : aSt) (q : Int32 × aSt) (h : F_X9_soldLast N x0 x1 σ = some q) (hG : Gr σ) (hx0 : isSale x0) : Cal xs L 71 [.ref x0, .int x1] σ (wI q.1) q.2 ∧ Gr q.2 := by
  have h : (H_X9_soldLast_4 N N x0 x1 ((-1)) 0 σ) = some q := h
  show Ev xs L 71 0 [.ref x0, .int x1, aU, aU, aU] [] σ (wI q.1) q.2 ∧ Gr q.2
  refine ev_a (fun he => ev_push rfl he) ?_
  refine ev_a (fun he => ev_istore (ls' := [.ref x0, .int x1, .int ((-1)), aU, aU]) rfl (Nat.le_of_ble_eq_true rfl) rfl he) ?_
  refine ev_a (fun he => ev_push rfl he) ?_
  refine ev_a (fun he => ev_istore (ls' := [.ref x0, .int x1, .int ((-1)), .int 0, aU]) rfl (Nat.le_of_ble_eq_true rfl) rfl he) ?_
  exact TH_X9_soldLast_4 xs L N N x0 x1 ((-1)) 0 (aU) σ q h hG hx0
