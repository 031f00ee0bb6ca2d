def H_X11_sale_25 (N : Nat) : Nat → Int32 → aSt → Option (Int32 × aSt)
  | 0, _, _ => none
  | n + 1, x1, σ => if (aI σ 0 6) ≤ x1 then some (aI σ 101 3, σ) else cO (¬ (x1 < 0 ∨ 6 ≤ x1.toNatClampNeg)) (oB (F_X3_fill N (223 + 2 * x1.toNatClampNeg) x1 101 σ) fun y3 σ4 => (H_X11_sale_25 N n) (x1 + 1) σ4)
set_option maxRecDepth 20000 in
set_option maxHeartbeats 4000000 in
theorem TH_X11_sale_25 (xs : Nat → Int32) (L : Nat) (N : Nat) : ∀ (n : Nat) (x1 : Int32) (σ : aSt) (q : Int32 × aSt), H_X11_sale_25 N n x1 σ = some q → Gr σ → Ev xs L 102 25 [.ref 0, .int x1] [] σ (wI q.1) q.2 ∧ Gr q.2 := by
  intro n
  induction n with
  | zero =>
    intro x1 σ q h hG
    exact absurd (show (none : Option (Int32 × aSt)) = some q from h) (by simp)
  | succ n ih =>
    intro x1 σ q h hG
    have hk25 : ∀ (x1 : Int32) (σ : aSt) (q : Int32 × aSt), H_X11_sale_25 N n x1 σ = some q → Gr σ → Ev xs L 102 25 [.ref 0, .int x1] [] σ (wI q.1) q.2 ∧ Gr q.2 := ih
    have h : (if (aI σ 0 6) ≤ x1 then some (aI σ 101 3, σ) else cO (¬ (x1 < 0 ∨ 6 ≤ x1.toNatClampNeg)) (oB (F_X3_fill N (223 + 2 * x1.toNatClampNeg) x1 101 σ) fun y3 σ4 => (H_X11_sale_25 N n) (x1 + 1) σ4)) = some q := h
    refine ev_a (fun he => ev_iload rfl rfl he) ?_
    refine ev_a (fun he => ev_aload rfl rfl he) ?_
    refine ev_a (fun he => ev_getI rfl (gr_ob (n := 9) hG rfl) he) ?_
    refine ev_b (c := (aI σ 0 6) ≤ x1) (fun ht hf => ev_cge rfl ht hf) (fun hc1 => ?_) (fun hc1 => ?_)
    · rw [if_pos hc1] at h
      refine ev_a (fun he => ev_aload rfl rfl he) ?_
      refine ev_a (fun he => ev_getR rfl (gr_ob (n := 9) hG rfl) (gr_p (a := 0) (k := 2) (b := 101) hG rfl) he) ?_
      refine ev_a (fun he => ev_getI rfl (gr_ob (n := 9) hG (sh_Sale0 sale_day)) he) ?_
      cases h
      exact ⟨ev_retI rfl, hG⟩
    · rw [if_neg hc1] at h
      refine ev_a (fun he => ev_aload rfl rfl he) ?_
      refine ev_a (fun he => ev_getR rfl (gr_ob (n := 9) hG rfl) (gr_p (a := 0) (k := 4) (b := 193) hG rfl) he) ?_
      refine ev_a (fun he => ev_aload rfl rfl he) ?_
      refine ev_a (fun he => ev_getR rfl (gr_ob (n := 9) hG rfl) (gr_p (a := 0) (k := 5) (b := 222) hG rfl) he) ?_
      refine ev_a (fun he => ev_iload rfl rfl he) ?_
      obtain ⟨hc2, h⟩ := cO_inv h
      refine ev_a (fun he => ev_aldR rfl (gr_ar hG rfl) (by decide) hc2 (gr_p hG (el_Ly hc2).1) he) ?_
      refine ev_a (fun he => ev_iload rfl rfl he) ?_
      refine ev_a (fun he => ev_aload rfl rfl he) ?_
      refine ev_a (fun he => ev_getR rfl (gr_ob (n := 9) hG rfl) (gr_p (a := 0) (k := 1) (b := 11) hG rfl) he) ?_
      refine ev_a (fun he => ev_aload rfl rfl he) ?_
      refine ev_a (fun he => ev_getR rfl (gr_ob (n := 9) hG rfl) (gr_p (a := 0) (k := 2) (b := 101) hG rfl) he) ?_
      obtain ⟨y3, σ4, h5, h⟩ := oB_inv h
      obtain ⟨c6, hG7⟩ := T_X3_fill xs L N (223 + 2 * x1.toNatClampNeg) x1 101 σ (y3, σ4) h5 hG (el_Ly hc2).2 sale_day
      refine ev_a (fun he => ev_callV (as := [.ref (223 + 2 * x1.toNatClampNeg), .int x1, .ref 11, .ref 101]) rfl (gr_ob (n := 4) hG rfl) rfl rfl rfl (Nat.le_of_ble_eq_true rfl) (Nat.le_of_ble_eq_true rfl) c6 he) ?_
      refine ev_a (fun he => ev_iinc (ls' := [.ref 0, .int (x1 + 1)]) rfl rfl rfl (Nat.le_of_ble_eq_true rfl) rfl he) ?_
      refine ev_a (fun he => ev_goto rfl he) ?_
      exact hk25 (x1 + 1) σ4 q h hG7
def F_X11_sale (N : Nat) (σ : aSt) : Option (Int32 × aSt) := if (aI σ 0 8) = 0 then lt (aWI σ 0 8 1) fun σ9 => oB (F_X9_hold N 101 ((-1)) σ9) fun y12 σ13 => H_X11_sale_25 N N 0 σ13 else some ((-2), σ)
set_option maxRecDepth 20000 in
set_option maxHeartbeats 4000000 in
theorem T_X11_sale (xs : Nat → Int32) (L : Nat) (N : Nat) (σ : aSt) (q : Int32 × aSt) (h : F_X11_sale N σ = some q) (hG : Gr σ) : Cal xs L 102 [.ref 0] σ (wI q.1) q.2 ∧ Gr q.2 := by
  have h : (if (aI σ 0 8) = 0 then lt (aWI σ 0 8 1) fun σ9 => oB (F_X9_hold N 101 ((-1)) σ9) fun y12 σ13 => H_X11_sale_25 N N 0 σ13 else some ((-2), σ)) = some q := h
  show Ev xs L 102 0 [.ref 0, aU] [] σ (wI q.1) q.2 ∧ Gr q.2
  refine ev_a (fun he => ev_aload rfl rfl he) ?_
  refine ev_a (fun he => ev_getI rfl (gr_ob (n := 9) hG rfl) he) ?_
  refine ev_b (c := (aI σ 0 8) = 0) (fun ht hf => ev_ifeq rfl ht hf) (fun hc8 => ?_) (fun hc8 => ?_)
  · rw [if_pos hc8] at h
    refine ev_a (fun he => ev_aload rfl rfl he) ?_
    refine ev_a (fun he => ev_push rfl he) ?_
    obtain ⟨σ9, e10, h⟩ := lt_inv h
    have hG11 : Gr σ9 := gr_wi e10 hG
    refine ev_a (fun he => ev_putZ rfl (gr_ob (n := 9) hG rfl) (Or.inr rfl) e10 he) ?_
    refine ev_a (fun he => ev_aload rfl rfl he) ?_
    refine ev_a (fun he => ev_getR rfl (gr_ob (n := 9) hG11 rfl) (gr_p (a := 0) (k := 2) (b := 101) hG11 rfl) he) ?_
    refine ev_a (fun he => ev_push rfl he) ?_
    obtain ⟨y12, σ13, h14, h⟩ := oB_inv h
    obtain ⟨c15, hG16⟩ := T_X9_hold xs L N 101 ((-1)) σ9 (y12, σ13) h14 hG11 sale_day
    refine ev_a (fun he => ev_callV (as := [.int ((-1))]) rfl (gr_ob (n := 9) hG11 (sh_Sale0 sale_day)) rfl rfl rfl (Nat.le_of_ble_eq_true rfl) (Nat.le_of_ble_eq_true rfl) c15 he) ?_
    refine ev_a (fun he => ev_push rfl he) ?_
    refine ev_a (fun he => ev_istore (ls' := [.ref 0, .int 0]) rfl (Nat.le_of_ble_eq_true rfl) rfl he) ?_
    exact TH_X11_sale_25 xs L N N 0 σ13 q h hG16
  · rw [if_neg hc8] at h
    refine ev_a (fun he => ev_push rfl he) ?_
    cases h
    exact ⟨ev_retI rfl, hG⟩
def F_X11_day (N : Nat) (σ : aSt) : Option (Int32 × aSt) := if (aI σ 0 8) ≠ 0 then oB (F_X9_noteLasts N 101 σ) fun y2 σ3 => lt (aWI σ3 11 1 0) fun σ7 => oB (F_X9_openPurses N 101 σ7) fun y10 σ11 => lt (aWI σ11 0 8 0) fun σ15 => lt (aWI σ15 0 7 ((aI σ15 0 7) + 1)) fun σ18 => some (aI σ18 0 7, σ18) else some ((-1), σ)
set_option maxRecDepth 20000 in
set_option maxHeartbeats 4000000 in
theorem T_X11_day (xs : Nat → Int32) (L : Nat) (N : Nat) (σ : aSt) (q : Int32 × aSt) (h : F_X11_day N σ = some q) (hG : Gr σ) : Cal xs L 103 [.ref 0] σ (wI q.1) q.2 ∧ Gr q.2 := by
  have h : (if (aI σ 0 8) ≠ 0 then oB (F_X9_noteLasts N 101 σ) fun y2 σ3 => lt (aWI σ3 11 1 0) fun σ7 => oB (F_X9_openPurses N 101 σ7) fun y10 σ11 => lt (aWI σ11 0 8 0) fun σ15 => lt (aWI σ15 0 7 ((aI σ15 0 7) + 1)) fun σ18 => some (aI σ18 0 7, σ18) else some ((-1), σ)) = some q := h
  show Ev xs L 103 0 [.ref 0] [] σ (wI q.1) q.2 ∧ Gr q.2
  refine ev_a (fun he => ev_aload rfl rfl he) ?_
  refine ev_a (fun he => ev_getI rfl (gr_ob (n := 9) hG rfl) he) ?_
  refine ev_b (c := (aI σ 0 8) ≠ 0) (fun ht hf => ev_ifne rfl ht hf) (fun hc1 => ?_) (fun hc1 => ?_)
  · rw [if_pos hc1] at h
    refine ev_a (fun he => ev_aload rfl rfl he) ?_
    refine ev_a (fun he => ev_getR rfl (gr_ob (n := 9) hG rfl) (gr_p (a := 0) (k := 2) (b := 101) hG rfl) he) ?_
    obtain ⟨y2, σ3, h4, h⟩ := oB_inv h
    obtain ⟨c5, hG6⟩ := T_X9_noteLasts xs L N 101 σ (y2, σ3) h4 hG sale_day
    refine ev_a (fun he => ev_callV (as := []) rfl (gr_ob (n := 9) hG (sh_Sale0 sale_day)) rfl rfl rfl (Nat.le_of_ble_eq_true rfl) (Nat.le_of_ble_eq_true rfl) c5 he) ?_
    refine ev_a (fun he => ev_aload rfl rfl he) ?_
    refine ev_a (fun he => ev_getR rfl (gr_ob (n := 9) hG6 rfl) (gr_p (a := 0) (k := 1) (b := 11) hG6 rfl) he) ?_
    refine ev_a (fun he => ev_push rfl he) ?_
    obtain ⟨σ7, e8, h⟩ := lt_inv h
    have hG9 : Gr σ7 := gr_wi e8 hG6
    refine ev_a (fun he => ev_putI rfl (gr_ob (n := 7) hG6 rfl) e8 he) ?_
    refine ev_a (fun he => ev_aload rfl rfl he) ?_
    refine ev_a (fun he => ev_getR rfl (gr_ob (n := 9) hG9 rfl) (gr_p (a := 0) (k := 2) (b := 101) hG9 rfl) he) ?_
    obtain ⟨y10, σ11, h12, h⟩ := oB_inv h
    obtain ⟨c13, hG14⟩ := T_X9_openPurses xs L N 101 σ7 (y10, σ11) h12 hG9 sale_day
    refine ev_a (fun he => ev_callV (as := []) rfl (gr_ob (n := 9) hG9 (sh_Sale0 sale_day)) rfl rfl rfl (Nat.le_of_ble_eq_true rfl) (Nat.le_of_ble_eq_true rfl) c13 he) ?_
    refine ev_a (fun he => ev_aload rfl rfl he) ?_
    refine ev_a (fun he => ev_push rfl he) ?_
    obtain ⟨σ15, e16, h⟩ := lt_inv h
    have hG17 : Gr σ15 := gr_wi e16 hG14
    refine ev_a (fun he => ev_putZ rfl (gr_ob (n := 9) hG14 rfl) (Or.inl rfl) e16 he) ?_
    refine ev_a (fun he => ev_aload rfl rfl he) ?_
    refine ev_a (fun he => ev_dupR rfl he) ?_
    refine ev_a (fun he => ev_getI rfl (gr_ob (n := 9) hG17 rfl) he) ?_
    refine ev_a (fun he => ev_push rfl he) ?_
    refine ev_a (fun he => ev_bin (z := (aI σ15 0 7) + 1) rfl rfl he) ?_
    obtain ⟨σ18, e19, h⟩ := lt_inv h
    have hG20 : Gr σ18 := gr_wi e19 hG17
    refine ev_a (fun he => ev_putI rfl (gr_ob (n := 9) hG17 rfl) e19 he) ?_
    refine ev_a (fun he => ev_aload rfl rfl he) ?_
    refine ev_a (fun he => ev_getI rfl (gr_ob (n := 9) hG20 rfl) he) ?_
    cases h
    exact ⟨ev_retI rfl, hG20⟩
  · rw [if_neg hc1] at h
    refine ev_a (fun he => ev_push rfl he) ?_
    cases h
    exact ⟨ev_retI rfl, hG⟩
def J_X11_told_18 (N : Nat) (σ : aSt) : Option (Int32 × aSt) := some ((-1), σ)
set_option maxRecDepth 20000 in
set_option maxHeartbeats 4000000 in
theorem TJ_X11_told_18 (xs : Nat → Int32) (L : Nat) (N : Nat) (d0 : Value) (d1 : Value) (d2 : Value) (σ : aSt) (q : Int32 × aSt) (h : J_X11_told_18 N  σ = some q) (hG : Gr σ) : Ev xs L 104 18 [d0, d1, d2] [] σ (wI q.1) q.2 ∧ Gr q.2 := by
  have h : (some ((-1), σ)) = some q := h
  refine ev_a (fun he => ev_push rfl he) ?_
  cases h
  exact ⟨ev_retI rfl, hG⟩
def F_X11_told (N : Nat) (x1 : Int32) (x2 : Int32) (σ : aSt) : Option (Int32 × aSt) := if (aI σ 0 8) = 0 then J_X11_told_18 N σ else oB (F_X2_hasLot N x1 σ) fun y2 σ3 => if y2 ≠ 0 then cO (¬ (x1 < 0 ∨ 24 ≤ x1.toNatClampNeg)) (oB (F_X6_tell N (101 + 4 + x1.toNatClampNeg) x2 σ3) fun y9 σ10 => some (y9, σ10)) else J_X11_told_18 N σ3
set_option maxRecDepth 20000 in
set_option maxHeartbeats 4000000 in
theorem T_X11_told (xs : Nat → Int32) (L : Nat) (N : Nat) (x1 : Int32) (x2 : Int32) (σ : aSt) (q : Int32 × aSt) (h : F_X11_told N x1 x2 σ = some q) (hG : Gr σ) : Cal xs L 104 [.ref 0, .int x1, .int x2] σ (wI q.1) q.2 ∧ Gr q.2 := by
  have h : (if (aI σ 0 8) = 0 then J_X11_told_18 N σ else oB (F_X2_hasLot N x1 σ) fun y2 σ3 => if y2 ≠ 0 then cO (¬ (x1 < 0 ∨ 24 ≤ x1.toNatClampNeg)) (oB (F_X6_tell N (101 + 4 + x1.toNatClampNeg) x2 σ3) fun y9 σ10 => some (y9, σ10)) else J_X11_told_18 N σ3) = some q := h
  show Ev xs L 104 0 [.ref 0, .int x1, .int x2] [] σ (wI q.1) q.2 ∧ Gr q.2
  refine ev_a (fun he => ev_aload rfl rfl he) ?_
  refine ev_a (fun he => ev_getI rfl (gr_ob (n := 9) hG rfl) he) ?_
  refine ev_b (c := (aI σ 0 8) = 0) (fun ht hf => ev_ifeq rfl ht hf) (fun hc1 => ?_) (fun hc1 => ?_)
  · rw [if_pos hc1] at h
    exact TJ_X11_told_18 xs L N (.ref 0) (.int x1) (.int x2) σ q h hG
  · rw [if_neg hc1] at h
    refine ev_a (fun he => ev_aload rfl rfl he) ?_
    refine ev_a (fun he => ev_getR rfl (gr_ob (n := 9) hG rfl) (gr_p (a := 0) (k := 1) (b := 11) hG rfl) he) ?_
    refine ev_a (fun he => ev_iload rfl rfl he) ?_
    obtain ⟨y2, σ3, h4, h⟩ := oB_inv h
    obtain ⟨c5, hG6⟩ := T_X2_hasLot xs L N x1 σ (y2, σ3) h4 hG
    refine ev_a (fun he => ev_callV (as := [.int x1]) rfl (gr_ob (n := 7) hG rfl) rfl rfl rfl (Nat.le_of_ble_eq_true rfl) (Nat.le_of_ble_eq_true rfl) c5 he) ?_
    refine ev_b (c := y2 ≠ 0) (fun ht hf => ev_ifne rfl ht hf) (fun hc7 => ?_) (fun hc7 => ?_)
    · rw [if_pos hc7] at h
      refine ev_a (fun he => ev_aload rfl rfl he) ?_
      refine ev_a (fun he => ev_getR rfl (gr_ob (n := 9) hG6 rfl) (gr_p (a := 0) (k := 2) (b := 101) hG6 rfl) he) ?_
      refine ev_a (fun he => ev_getR rfl (gr_ob (n := 9) hG6 (sh_Sale0 sale_day)) (gr_p hG6 (gf_Sale1 sale_day)) he) ?_
      refine ev_a (fun he => ev_iload rfl rfl he) ?_
      obtain ⟨hc8, h⟩ := cO_inv h
      refine ev_a (fun he => ev_aldR rfl (gr_ar hG6 (sh_Sale1 sale_day)) (by decide) hc8 (gr_p hG6 (el_Ou sale_day hc8).1) he) ?_
      refine ev_a (fun he => ev_iload rfl rfl he) ?_
      obtain ⟨y9, σ10, h11, h⟩ := oB_inv h
      obtain ⟨c12, hG13⟩ := T_X6_tell xs L N (101 + 4 + x1.toNatClampNeg) x2 σ3 (y9, σ10) h11 hG6 (el_Ou sale_day hc8).2
      refine ev_a (fun he => ev_callV (as := [.int x2]) rfl (gr_ob (n := 8) hG6 (sh_Ou0 (el_Ou sale_day hc8).2)) rfl rfl rfl (Nat.le_of_ble_eq_true rfl) (Nat.le_of_ble_eq_true rfl) c12 he) ?_
      cases h
      exact ⟨ev_retI rfl, hG13⟩
    · rw [if_neg hc7] at h
      exact TJ_X11_told_18 xs L N (.ref 0) (.int x1) (.int x2) σ3 q h hG6
def J_X11_limit_22 (N : Nat) (σ : aSt) : Option (Int32 × aSt) := some ((-1), σ)
set_option maxRecDepth 20000 in
set_option maxHeartbeats 4000000 in
theorem TJ_X11_limit_22 (xs : Nat → Int32) (L : Nat) (N : Nat) (d0 : Value) (d1 : Value) (d2 : Value) (σ : aSt) (q : Int32 × aSt) (h : J_X11_limit_22 N  σ = some q) (hG : Gr σ) : Ev xs L 105 22 [d0, d1, d2] [] σ (wI q.1) q.2 ∧ Gr q.2 := by
  have h : (some ((-1), σ)) = some q := h
  refine ev_a (fun he => ev_push rfl he) ?_
  cases h
  exact ⟨ev_retI rfl, hG⟩
def F_X11_limit (N : Nat) (x1 : Int32) (x2 : Int32) (σ : aSt) : Option (Int32 × aSt) := oB (F_X2_hasBuyer N x1 σ) fun y1 σ2 => if y1 = 0 then J_X11_limit_22 N σ2 else oB (F_X2_hasLot N x2 σ2) fun y7 σ8 => if y7 ≠ 0 then cO (¬ (x1 < 0 ∨ 6 ≤ x1.toNatClampNeg)) (oB (F_X2_limitOf N x1 x2 (101 + 28 + 2 * x1.toNatClampNeg) σ8) fun y14 σ15 => some (y14, σ15)) else J_X11_limit_22 N σ8
set_option maxRecDepth 20000 in
set_option maxHeartbeats 4000000 in
theorem T_X11_limit (xs : Nat → Int32) (L : Nat) (N : Nat) (x1 : Int32) (x2 : Int32) (σ : aSt) (q : Int32 × aSt) (h : F_X11_limit N x1 x2 σ = some q) (hG : Gr σ) : Cal xs L 105 [.ref 0, .int x1, .int x2] σ (wI q.1) q.2 ∧ Gr q.2 := by
  have h : (oB (F_X2_hasBuyer N x1 σ) fun y1 σ2 => if y1 = 0 then J_X11_limit_22 N σ2 else oB (F_X2_hasLot N x2 σ2) fun y7 σ8 => if y7 ≠ 0 then cO (¬ (x1 < 0 ∨ 6 ≤ x1.toNatClampNeg)) (oB (F_X2_limitOf N x1 x2 (101 + 28 + 2 * x1.toNatClampNeg) σ8) fun y14 σ15 => some (y14, σ15)) else J_X11_limit_22 N σ8) = some q := h
  show Ev xs L 105 0 [.ref 0, .int x1, .int x2] [] σ (wI q.1) q.2 ∧ Gr q.2
  refine ev_a (fun he => ev_aload rfl rfl he) ?_
  refine ev_a (fun he => ev_getR rfl (gr_ob (n := 9) hG rfl) (gr_p (a := 0) (k := 1) (b := 11) hG rfl) he) ?_
  refine ev_a (fun he => ev_iload rfl rfl he) ?_
  obtain ⟨y1, σ2, h3, h⟩ := oB_inv h
  obtain ⟨c4, hG5⟩ := T_X2_hasBuyer xs L N x1 σ (y1, σ2) h3 hG
  refine ev_a (fun he => ev_callV (as := [.int x1]) rfl (gr_ob (n := 7) hG rfl) rfl rfl rfl (Nat.le_of_ble_eq_true rfl) (Nat.le_of_ble_eq_true rfl) c4 he) ?_
  refine ev_b (c := y1 = 0) (fun ht hf => ev_ifeq rfl ht hf) (fun hc6 => ?_) (fun hc6 => ?_)
  · rw [if_pos hc6] at h
    exact TJ_X11_limit_22 xs L N (.ref 0) (.int x1) (.int x2) σ2 q h hG5
  · rw [if_neg hc6] at h
    refine ev_a (fun he => ev_aload rfl rfl he) ?_
    refine ev_a (fun he => ev_getR rfl (gr_ob (n := 9) hG5 rfl) (gr_p (a := 0) (k := 1) (b := 11) hG5 rfl) he) ?_
    refine ev_a (fun he => ev_iload rfl rfl he) ?_
    obtain ⟨y7, σ8, h9, h⟩ := oB_inv h
    obtain ⟨c10, hG11⟩ := T_X2_hasLot xs L N x2 σ2 (y7, σ8) h9 hG5
    refine ev_a (fun he => ev_callV (as := [.int x2]) rfl (gr_ob (n := 7) hG5 rfl) rfl rfl rfl (Nat.le_of_ble_eq_true rfl) (Nat.le_of_ble_eq_true rfl) c10 he) ?_
    refine ev_b (c := y7 ≠ 0) (fun ht hf => ev_ifne rfl ht hf) (fun hc12 => ?_) (fun hc12 => ?_)
    · rw [if_pos hc12] at h
      refine ev_a (fun he => ev_aload rfl rfl he) ?_
      refine ev_a (fun he => ev_getR rfl (gr_ob (n := 9) hG11 rfl) (gr_p (a := 0) (k := 1) (b := 11) hG11 rfl) he) ?_
      refine ev_a (fun he => ev_iload rfl rfl he) ?_
      refine ev_a (fun he => ev_iload rfl rfl he) ?_
      refine ev_a (fun he => ev_aload rfl rfl he) ?_
      refine ev_a (fun he => ev_getR rfl (gr_ob (n := 9) hG11 rfl) (gr_p (a := 0) (k := 2) (b := 101) hG11 rfl) he) ?_
      refine ev_a (fun he => ev_getR rfl (gr_ob (n := 9) hG11 (sh_Sale0 sale_day)) (gr_p hG11 (gf_Sale2 sale_day)) he) ?_
      refine ev_a (fun he => ev_iload rfl rfl he) ?_
      obtain ⟨hc13, h⟩ := cO_inv h
      refine ev_a (fun he => ev_aldR rfl (gr_ar hG11 (sh_Sale2 sale_day)) (by decide) hc13 (gr_p hG11 (el_Pu sale_day hc13).1) he) ?_
      obtain ⟨y14, σ15, h16, h⟩ := oB_inv h
      obtain ⟨c17, hG18⟩ := T_X2_limitOf xs L N x1 x2 (101 + 28 + 2 * x1.toNatClampNeg) σ8 (y14, σ15) h16 hG11 (el_Pu sale_day hc13).2
      refine ev_a (fun he => ev_callV (as := [.int x1, .int x2, .ref (101 + 28 + 2 * x1.toNatClampNeg)]) rfl (gr_ob (n := 7) hG11 rfl) rfl rfl rfl (Nat.le_of_ble_eq_true rfl) (Nat.le_of_ble_eq_true rfl) c17 he) ?_
      cases h
      exact ⟨ev_retI rfl, hG18⟩
    · rw [if_neg hc12] at h
      exact TJ_X11_limit_22 xs L N (.ref 0) (.int x1) (.int x2) σ8 q h hG11
def J_X11_rule_22 (N : Nat) (σ : aSt) : Option (Int32 × aSt) := some ((-1), σ)
set_option maxRecDepth 20000 in
set_option maxHeartbeats 4000000 in
theorem TJ_X11_rule_22 (xs : Nat → Int32) (L : Nat) (N : Nat) (d0 : Value) (d1 : Value) (d2 : Value) (σ : aSt) (q : Int32 × aSt) (h : J_X11_rule_22 N  σ = some q) (hG : Gr σ) : Ev xs L 106 22 [d0, d1, d2] [] σ (wI q.1) q.2 ∧ Gr q.2 := by
  have h : (some ((-1), σ)) = some q := h
  refine ev_a (fun he => ev_push rfl he) ?_
  cases h
  exact ⟨ev_retI rfl, hG⟩
def F_X11_rule (N : Nat) (x1 : Int32) (x2 : Int32) (σ : aSt) : Option (Int32 × aSt) := oB (F_X2_hasBuyer N x1 σ) fun y1 σ2 => if y1 = 0 then J_X11_rule_22 N σ2 else oB (F_X2_hasLot N x2 σ2) fun y7 σ8 => if y7 ≠ 0 then cO (¬ (x1 < 0 ∨ 6 ≤ x1.toNatClampNeg)) (oB (F_X2_bidRuleOf N x1 x2 (101 + 28 + 2 * x1.toNatClampNeg) σ8) fun y14 σ15 => some (y14, σ15)) else J_X11_rule_22 N σ8
set_option maxRecDepth 20000 in
set_option maxHeartbeats 4000000 in
theorem T_X11_rule (xs : Nat → Int32) (L : Nat) (N : Nat) (x1 : Int32) (x2 : Int32) (σ : aSt) (q : Int32 × aSt) (h : F_X11_rule N x1 x2 σ = some q) (hG : Gr σ) : Cal xs L 106 [.ref 0, .int x1, .int x2] σ (wI q.1) q.2 ∧ Gr q.2 := by
  have h : (oB (F_X2_hasBuyer N x1 σ) fun y1 σ2 => if y1 = 0 then J_X11_rule_22 N σ2 else oB (F_X2_hasLot N x2 σ2) fun y7 σ8 => if y7 ≠ 0 then cO (¬ (x1 < 0 ∨ 6 ≤ x1.toNatClampNeg)) (oB (F_X2_bidRuleOf N x1 x2 (101 + 28 + 2 * x1.toNatClampNeg) σ8) fun y14 σ15 => some (y14, σ15)) else J_X11_rule_22 N σ8) = some q := h
  show Ev xs L 106 0 [.ref 0, .int x1, .int x2] [] σ (wI q.1) q.2 ∧ Gr q.2
  refine ev_a (fun he => ev_aload rfl rfl he) ?_
  refine ev_a (fun he => ev_getR rfl (gr_ob (n := 9) hG rfl) (gr_p (a := 0) (k := 1) (b := 11) hG rfl) he) ?_
  refine ev_a (fun he => ev_iload rfl rfl he) ?_
  obtain ⟨y1, σ2, h3, h⟩ := oB_inv h
  obtain ⟨c4, hG5⟩ := T_X2_hasBuyer xs L N x1 σ (y1, σ2) h3 hG
  refine ev_a (fun he => ev_callV (as := [.int x1]) rfl (gr_ob (n := 7) hG rfl) rfl rfl rfl (Nat.le_of_ble_eq_true rfl) (Nat.le_of_ble_eq_true rfl) c4 he) ?_
  refine ev_b (c := y1 = 0) (fun ht hf => ev_ifeq rfl ht hf) (fun hc6 => ?_) (fun hc6 => ?_)
  · rw [if_pos hc6] at h
    exact TJ_X11_rule_22 xs L N (.ref 0) (.int x1) (.int x2) σ2 q h hG5
  · rw [if_neg hc6] at h
    refine ev_a (fun he => ev_aload rfl rfl he) ?_
    refine ev_a (fun he => ev_getR rfl (gr_ob (n := 9) hG5 rfl) (gr_p (a := 0) (k := 1) (b := 11) hG5 rfl) he) ?_
    refine ev_a (fun he => ev_iload rfl rfl he) ?_
    obtain ⟨y7, σ8, h9, h⟩ := oB_inv h
    obtain ⟨c10, hG11⟩ := T_X2_hasLot xs L N x2 σ2 (y7, σ8) h9 hG5
    refine ev_a (fun he => ev_callV (as := [.int x2]) rfl (gr_ob (n := 7) hG5 rfl) rfl rfl rfl (Nat.le_of_ble_eq_true rfl) (Nat.le_of_ble_eq_true rfl) c10 he) ?_
    refine ev_b (c := y7 ≠ 0) (fun ht hf => ev_ifne rfl ht hf) (fun hc12 => ?_) (fun hc12 => ?_)
    · rw [if_pos hc12] at h
      refine ev_a (fun he => ev_aload rfl rfl he) ?_
      refine ev_a (fun he => ev_getR rfl (gr_ob (n := 9) hG11 rfl) (gr_p (a := 0) (k := 1) (b := 11) hG11 rfl) he) ?_
      refine ev_a (fun he => ev_iload rfl rfl he) ?_
      refine ev_a (fun he => ev_iload rfl rfl he) ?_
      refine ev_a (fun he => ev_aload rfl rfl he) ?_
      refine ev_a (fun he => ev_getR rfl (gr_ob (n := 9) hG11 rfl) (gr_p (a := 0) (k := 2) (b := 101) hG11 rfl) he) ?_
      refine ev_a (fun he => ev_getR rfl (gr_ob (n := 9) hG11 (sh_Sale0 sale_day)) (gr_p hG11 (gf_Sale2 sale_day)) he) ?_
      refine ev_a (fun he => ev_iload rfl rfl he) ?_
      obtain ⟨hc13, h⟩ := cO_inv h
      refine ev_a (fun he => ev_aldR rfl (gr_ar hG11 (sh_Sale2 sale_day)) (by decide) hc13 (gr_p hG11 (el_Pu sale_day hc13).1) he) ?_
      obtain ⟨y14, σ15, h16, h⟩ := oB_inv h
      obtain ⟨c17, hG18⟩ := T_X2_bidRuleOf xs L N x1 x2 (101 + 28 + 2 * x1.toNatClampNeg) σ8 (y14, σ15) h16 hG11 (el_Pu sale_day hc13).2
      refine ev_a (fun he => ev_callV (as := [.int x1, .int x2, .ref (101 + 28 + 2 * x1.toNatClampNeg)]) rfl (gr_ob (n := 7) hG11 rfl) rfl rfl rfl (Nat.le_of_ble_eq_true rfl) (Nat.le_of_ble_eq_true rfl) c17 he) ?_
      cases h
      exact ⟨ev_retI rfl, hG18⟩
    · rw [if_neg hc12] at h
      exact TJ_X11_rule_22 xs L N (.ref 0) (.int x1) (.int x2) σ8 q h hG11
def F_X11_bought (N : Nat) (x1 : Int32) (x2 : Int32) (σ : aSt) : Option (Int32 × aSt) := oB (F_X2_hasBuyer N x1 σ) fun y1 σ2 => if y1 ≠ 0 then cO (¬ (x1 < 0 ∨ 6 ≤ x1.toNatClampNeg)) (oB (F_X11_isBelow N (x2 - 10) 6 σ2) fun y8 σ9 => if y8 = 0 then oB (F_X11_isBelow N (x2 - 20) 6 σ9) fun y14 σ15 => if y14 = 0 then if x2 = 0 then (some (aI σ15 (101 + 28 + 2 * x1.toNatClampNeg) 1, σ15)) else if x2 = 1 then (some (aI σ15 (101 + 28 + 2 * x1.toNatClampNeg) 0, σ15)) else if x2 = 2 then (some (aI σ15 (101 + 28 + 2 * x1.toNatClampNeg) 2, σ15)) else some ((-1), σ15) else oB (F_X2_stillWanted N x1 (x2 - 20) (101 + 28 + 2 * x1.toNatClampNeg) σ15) fun y23 σ24 => some (y23, σ24) else cO (¬ ((x2 - 10) < 0 ∨ 6 ≤ (x2 - 10).toNatClampNeg)) (some (aI σ9 (101 + 28 + 2 * x1.toNatClampNeg + 1) (x2 - 10).toNatClampNeg, σ9))) else some ((-1), σ2)
set_option maxRecDepth 20000 in
set_option maxHeartbeats 4000000 in
theorem T_X11_bought (xs : Nat → Int32) (L : Nat) (N : Nat) (x1 : Int32) (x2 : Int32) (σ : aSt) (q : Int32 × aSt) (h : F_X11_bought N x1 x2 σ = some q) (hG : Gr σ) : Cal xs L 107 [.ref 0, .int x1, .int x2] σ (wI q.1) q.2 ∧ Gr q.2 := by
  have h : (oB (F_X2_hasBuyer N x1 σ) fun y1 σ2 => if y1 ≠ 0 then cO (¬ (x1 < 0 ∨ 6 ≤ x1.toNatClampNeg)) (oB (F_X11_isBelow N (x2 - 10) 6 σ2) fun y8 σ9 => if y8 = 0 then oB (F_X11_isBelow N (x2 - 20) 6 σ9) fun y14 σ15 => if y14 = 0 then if x2 = 0 then (some (aI σ15 (101 + 28 + 2 * x1.toNatClampNeg) 1, σ15)) else if x2 = 1 then (some (aI σ15 (101 + 28 + 2 * x1.toNatClampNeg) 0, σ15)) else if x2 = 2 then (some (aI σ15 (101 + 28 + 2 * x1.toNatClampNeg) 2, σ15)) else some ((-1), σ15) else oB (F_X2_stillWanted N x1 (x2 - 20) (101 + 28 + 2 * x1.toNatClampNeg) σ15) fun y23 σ24 => some (y23, σ24) else cO (¬ ((x2 - 10) < 0 ∨ 6 ≤ (x2 - 10).toNatClampNeg)) (some (aI σ9 (101 + 28 + 2 * x1.toNatClampNeg + 1) (x2 - 10).toNatClampNeg, σ9))) else some ((-1), σ2)) = some q := h
  show Ev xs L 107 0 [.ref 0, .int x1, .int x2, aU] [] σ (wI q.1) q.2 ∧ Gr q.2
  refine ev_a (fun he => ev_aload rfl rfl he) ?_
  refine ev_a (fun he => ev_getR rfl (gr_ob (n := 9) hG rfl) (gr_p (a := 0) (k := 1) (b := 11) hG rfl) he) ?_
  refine ev_a (fun he => ev_iload rfl rfl he) ?_
  obtain ⟨y1, σ2, h3, h⟩ := oB_inv h
  obtain ⟨c4, hG5⟩ := T_X2_hasBuyer xs L N x1 σ (y1, σ2) h3 hG
  refine ev_a (fun he => ev_callV (as := [.int x1]) rfl (gr_ob (n := 7) hG rfl) rfl rfl rfl (Nat.le_of_ble_eq_true rfl) (Nat.le_of_ble_eq_true rfl) c4 he) ?_
  refine ev_b (c := y1 ≠ 0) (fun ht hf => ev_ifne rfl ht hf) (fun hc6 => ?_) (fun hc6 => ?_)
  · rw [if_pos hc6] at h
    refine ev_a (fun he => ev_aload rfl rfl he) ?_
    refine ev_a (fun he => ev_getR rfl (gr_ob (n := 9) hG5 rfl) (gr_p (a := 0) (k := 2) (b := 101) hG5 rfl) he) ?_
    refine ev_a (fun he => ev_getR rfl (gr_ob (n := 9) hG5 (sh_Sale0 sale_day)) (gr_p hG5 (gf_Sale2 sale_day)) he) ?_
    refine ev_a (fun he => ev_iload rfl rfl he) ?_
    obtain ⟨hc7, h⟩ := cO_inv h
    refine ev_a (fun he => ev_aldR rfl (gr_ar hG5 (sh_Sale2 sale_day)) (by decide) hc7 (gr_p hG5 (el_Pu sale_day hc7).1) he) ?_
    refine ev_a (fun he => ev_astore (ls' := [.ref 0, .int x1, .int x2, .ref (101 + 28 + 2 * x1.toNatClampNeg)]) rfl (Nat.le_of_ble_eq_true rfl) rfl he) ?_
    refine ev_a (fun he => ev_iload rfl rfl he) ?_
    refine ev_a (fun he => ev_push rfl he) ?_
    refine ev_a (fun he => ev_bin (z := x2 - 10) rfl rfl he) ?_
    refine ev_a (fun he => ev_push rfl he) ?_
    obtain ⟨y8, σ9, h10, h⟩ := oB_inv h
    obtain ⟨c11, hG12⟩ := T_X11_isBelow xs L N (x2 - 10) 6 σ2 (y8, σ9) h10 hG5
    refine ev_a (fun he => ev_callS (as := [.int (x2 - 10), .int 6]) rfl rfl rfl rfl (Nat.le_of_ble_eq_true rfl) (Nat.le_of_ble_eq_true rfl) c11 he) ?_
    refine ev_b (c := y8 = 0) (fun ht hf => ev_ifeq rfl ht hf) (fun hc13 => ?_) (fun hc13 => ?_)
    · rw [if_pos hc13] at h
      refine ev_a (fun he => ev_iload rfl rfl he) ?_
      refine ev_a (fun he => ev_push rfl he) ?_
      refine ev_a (fun he => ev_bin (z := x2 - 20) rfl rfl he) ?_
      refine ev_a (fun he => ev_push rfl he) ?_
      obtain ⟨y14, σ15, h16, h⟩ := oB_inv h
      obtain ⟨c17, hG18⟩ := T_X11_isBelow xs L N (x2 - 20) 6 σ9 (y14, σ15) h16 hG12
      refine ev_a (fun he => ev_callS (as := [.int (x2 - 20), .int 6]) rfl rfl rfl rfl (Nat.le_of_ble_eq_true rfl) (Nat.le_of_ble_eq_true rfl) c17 he) ?_
      refine ev_b (c := y14 = 0) (fun ht hf => ev_ifeq rfl ht hf) (fun hc19 => ?_) (fun hc19 => ?_)
      · rw [if_pos hc19] at h
        refine ev_a (fun he => ev_iload rfl rfl he) ?_
        by_cases hz20 : x2 = 0
        · rw [if_pos hz20] at h
          refine ev_a (fun he => ev_tab (t := 100) rfl (by rw [hz20]; decide) he) ?_
          refine ev_a (fun he => ev_aload rfl rfl he) ?_
          refine ev_a (fun he => ev_getI rfl (gr_ob (n := 5) hG18 (sh_Pu0 (el_Pu sale_day hc7).2)) he) ?_
          cases h
          exact ⟨ev_retI rfl, hG18⟩
        · rw [if_neg hz20] at h
          by_cases hz21 : x2 = 1
          · rw [if_pos hz21] at h
            refine ev_a (fun he => ev_tab (t := 105) rfl (by rw [hz21]; decide) he) ?_
            refine ev_a (fun he => ev_aload rfl rfl he) ?_
            refine ev_a (fun he => ev_getI rfl (gr_ob (n := 5) hG18 (sh_Pu0 (el_Pu sale_day hc7).2)) he) ?_
            cases h
            exact ⟨ev_retI rfl, hG18⟩
          · rw [if_neg hz21] at h
            by_cases hz22 : x2 = 2
            · rw [if_pos hz22] at h
              refine ev_a (fun he => ev_tab (t := 110) rfl (by rw [hz22]; decide) he) ?_
              refine ev_a (fun he => ev_aload rfl rfl he) ?_
              refine ev_a (fun he => ev_getI rfl (gr_ob (n := 5) hG18 (sh_Pu0 (el_Pu sale_day hc7).2)) he) ?_
              cases h
              exact ⟨ev_retI rfl, hG18⟩
            · rw [if_neg hz22] at h
              refine ev_a (fun he => ev_tab (t := 115) rfl (aSwt_d [0, 1, 2] rfl (by decide) (List.forall_mem_cons.mpr ⟨hz20, (List.forall_mem_cons.mpr ⟨hz21, (List.forall_mem_cons.mpr ⟨hz22, (fun _ hm => absurd hm List.not_mem_nil)⟩)⟩)⟩)) he) ?_
              refine ev_a (fun he => ev_push rfl he) ?_
              cases h
              exact ⟨ev_retI rfl, hG18⟩
      · rw [if_neg hc19] at h
        refine ev_a (fun he => ev_aload rfl rfl he) ?_
        refine ev_a (fun he => ev_getR rfl (gr_ob (n := 9) hG18 rfl) (gr_p (a := 0) (k := 1) (b := 11) hG18 rfl) he) ?_
        refine ev_a (fun he => ev_iload rfl rfl he) ?_
        refine ev_a (fun he => ev_iload rfl rfl he) ?_
        refine ev_a (fun he => ev_push rfl he) ?_
        refine ev_a (fun he => ev_bin (z := x2 - 20) rfl rfl he) ?_
        refine ev_a (fun he => ev_aload rfl rfl he) ?_
        obtain ⟨y23, σ24, h25, h⟩ := oB_inv h
        obtain ⟨c26, hG27⟩ := T_X2_stillWanted xs L N x1 (x2 - 20) (101 + 28 + 2 * x1.toNatClampNeg) σ15 (y23, σ24) h25 hG18 (el_Pu sale_day hc7).2
        refine ev_a (fun he => ev_callV (as := [.int x1, .int (x2 - 20), .ref (101 + 28 + 2 * x1.toNatClampNeg)]) rfl (gr_ob (n := 7) hG18 rfl) rfl rfl rfl (Nat.le_of_ble_eq_true rfl) (Nat.le_of_ble_eq_true rfl) c26 he) ?_
        cases h
        exact ⟨ev_retI rfl, hG27⟩
    · rw [if_neg hc13] at h
      refine ev_a (fun he => ev_aload rfl rfl he) ?_
      refine ev_a (fun he => ev_getR rfl (gr_ob (n := 5) hG12 (sh_Pu0 (el_Pu sale_day hc7).2)) (gr_p hG12 (gf_Pu3 (el_Pu sale_day hc7).2)) he) ?_
      refine ev_a (fun he => ev_iload rfl rfl he) ?_
      refine ev_a (fun he => ev_push rfl he) ?_
      refine ev_a (fun he => ev_bin (z := x2 - 10) rfl rfl he) ?_
      obtain ⟨hc28, h⟩ := cO_inv h
      refine ev_a (fun he => ev_aldI (k := (x2 - 10).toNatClampNeg) rfl (gr_ar hG12 (sh_Pu1 (el_Pu sale_day hc7).2)) hc28 rfl he) ?_
      cases h
      exact ⟨ev_retI rfl, hG12⟩
  · rw [if_neg hc6] at h
    refine ev_a (fun he => ev_push rfl he) ?_
    cases h
    exact ⟨ev_retI rfl, hG5⟩
