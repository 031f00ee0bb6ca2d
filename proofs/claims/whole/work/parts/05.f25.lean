def J_X12_read_13 (N : Nat) (σ : aSt) : Option (Int32 × aSt) := some ((-2), σ)
set_option maxRecDepth 20000 in
set_option maxHeartbeats 4000000 in
theorem TJ_X12_read_13 (xs : Nat → Int32) (L : Nat) (N : Nat) (d0 : Value) (d1 : Value) (d2 : Value) (σ : aSt) (q : Int32 × aSt) (h : J_X12_read_13 N  σ = some q) (hG : Gr σ) : Ev xs L 133 13 [d0, d1, d2] [] σ (wI q.1) q.2 ∧ Gr q.2 := by
  have h : (some ((-2), σ)) = some q := h
  refine ev_a (fun he => ev_push rfl he) ?_
  cases h
  exact ⟨ev_retI rfl, hG⟩
def J_X12_read_171 (N : Nat) (x2 : Int32) (s1 : Int32) (σ : aSt) : Option (Int32 × aSt) := lt (aWI σ 235 17 s1) fun σ1 => if (aI σ1 235 13) ≤ 0 then cO (¬ (x2 < 0 ∨ 7 ≤ x2.toNatClampNeg)) (cO (¬ (x2 < 0 ∨ 7 ≤ x2.toNatClampNeg)) (lt (aWI σ1 243 x2.toNatClampNeg (1 - (aI σ1 243 x2.toNatClampNeg))) fun σ7 => some (0, σ7))) else some (aI σ1 235 13, σ1)
set_option maxRecDepth 20000 in
set_option maxHeartbeats 4000000 in
theorem TJ_X12_read_171 (xs : Nat → Int32) (L : Nat) (N : Nat) (x2 : Int32) (s1 : Int32) (d1 : Value) (σ : aSt) (q : Int32 × aSt) (h : J_X12_read_171 N x2 s1 σ = some q) (hG : Gr σ) : Ev xs L 133 171 [.ref 235, d1, .int x2] [.int s1, .ref 235] σ (wI q.1) q.2 ∧ Gr q.2 := by
  have h : (lt (aWI σ 235 17 s1) fun σ1 => if (aI σ1 235 13) ≤ 0 then cO (¬ (x2 < 0 ∨ 7 ≤ x2.toNatClampNeg)) (cO (¬ (x2 < 0 ∨ 7 ≤ x2.toNatClampNeg)) (lt (aWI σ1 243 x2.toNatClampNeg (1 - (aI σ1 243 x2.toNatClampNeg))) fun σ7 => some (0, σ7))) else some (aI σ1 235 13, σ1)) = some q := h
  obtain ⟨σ1, e2, h⟩ := lt_inv h
  have hG3 : Gr σ1 := gr_wi e2 hG
  refine ev_a (fun he => ev_putI rfl (gr_ob (n := 80) hG rfl) e2 he) ?_
  refine ev_a (fun he => ev_aload rfl rfl he) ?_
  refine ev_a (fun he => ev_getI rfl (gr_ob (n := 80) hG3 rfl) he) ?_
  refine ev_b (c := (aI σ1 235 13) ≤ 0) (fun ht hf => ev_ifle rfl ht hf) (fun hc4 => ?_) (fun hc4 => ?_)
  · rw [if_pos hc4] at h
    refine ev_a (fun he => ev_aload rfl rfl he) ?_
    refine ev_a (fun he => ev_getR rfl (gr_ob (n := 80) hG3 rfl) (gr_p (a := 235) (k := 18) (b := 243) hG3 rfl) he) ?_
    refine ev_a (fun he => ev_iload rfl rfl he) ?_
    refine ev_a (fun he => ev_push rfl he) ?_
    refine ev_a (fun he => ev_aload rfl rfl he) ?_
    refine ev_a (fun he => ev_getR rfl (gr_ob (n := 80) hG3 rfl) (gr_p (a := 235) (k := 18) (b := 243) hG3 rfl) he) ?_
    refine ev_a (fun he => ev_iload rfl rfl he) ?_
    obtain ⟨hc5, h⟩ := cO_inv h
    refine ev_a (fun he => ev_aldI (k := x2.toNatClampNeg) rfl (gr_ar hG3 rfl) hc5 rfl he) ?_
    refine ev_a (fun he => ev_bin (z := 1 - (aI σ1 243 x2.toNatClampNeg)) rfl rfl he) ?_
    obtain ⟨hc6, h⟩ := cO_inv h
    obtain ⟨σ7, e8, h⟩ := lt_inv h
    have hG9 : Gr σ7 := gr_wi e8 hG3
    refine ev_a (fun he => ev_astI (k := x2.toNatClampNeg) rfl (gr_ar hG3 rfl) hc6 rfl rfl e8 he) ?_
    refine ev_a (fun he => ev_push rfl he) ?_
    cases h
    exact ⟨ev_retI rfl, hG9⟩
  · rw [if_neg hc4] at h
    refine ev_a (fun he => ev_aload rfl rfl he) ?_
    refine ev_a (fun he => ev_getI rfl (gr_ob (n := 80) hG3 rfl) he) ?_
    cases h
    exact ⟨ev_retI rfl, hG3⟩
def J_X12_read_155 (N : Nat) (x2 : Int32) (σ : aSt) : Option (Int32 × aSt) := if (aI σ 235 13) ≤ 0 then J_X12_read_171 N x2 ((-1)) σ else J_X12_read_171 N x2 (aI σ 235 14) σ
set_option maxRecDepth 20000 in
set_option maxHeartbeats 4000000 in
theorem TJ_X12_read_155 (xs : Nat → Int32) (L : Nat) (N : Nat) (x2 : Int32) (d1 : Value) (σ : aSt) (q : Int32 × aSt) (h : J_X12_read_155 N x2 σ = some q) (hG : Gr σ) : Ev xs L 133 155 [.ref 235, d1, .int x2] [] σ (wI q.1) q.2 ∧ Gr q.2 := by
  have h : (if (aI σ 235 13) ≤ 0 then J_X12_read_171 N x2 ((-1)) σ else J_X12_read_171 N x2 (aI σ 235 14) σ) = some q := h
  refine ev_a (fun he => ev_aload rfl rfl he) ?_
  refine ev_a (fun he => ev_aload rfl rfl he) ?_
  refine ev_a (fun he => ev_getI rfl (gr_ob (n := 80) hG rfl) he) ?_
  refine ev_b (c := (aI σ 235 13) ≤ 0) (fun ht hf => ev_ifle rfl ht hf) (fun hc10 => ?_) (fun hc10 => ?_)
  · rw [if_pos hc10] at h
    refine ev_a (fun he => ev_push rfl he) ?_
    exact TJ_X12_read_171 xs L N x2 ((-1)) (d1) σ q h hG
  · rw [if_neg hc10] at h
    refine ev_a (fun he => ev_aload rfl rfl he) ?_
    refine ev_a (fun he => ev_getI rfl (gr_ob (n := 80) hG rfl) he) ?_
    refine ev_a (fun he => ev_goto rfl he) ?_
    exact TJ_X12_read_171 xs L N x2 (aI σ 235 14) (d1) σ q h hG
def H_X12_read_133 (N : Nat) : Nat → Int32 → aSt → Option (Int32 × aSt)
  | 0, _, _ => none
  | n + 1, x2, σ => if (aI σ 235 13) ≠ 0 then J_X12_read_155 N x2 σ else oB (F_X12_is N 0 σ) fun y12 σ13 => if y12 ≠ 0 then J_X12_read_155 N x2 σ13 else oB (F_X12_tellRule N σ13) fun y18 σ19 => (H_X12_read_133 N n) x2 σ19
set_option maxRecDepth 20000 in
set_option maxHeartbeats 4000000 in
theorem TH_X12_read_133 (xs : Nat → Int32) (L : Nat) (N : Nat) : ∀ (n : Nat) (x2 : Int32) (d1 : Value) (σ : aSt) (q : Int32 × aSt), H_X12_read_133 N n x2 σ = some q → Gr σ → Ev xs L 133 133 [.ref 235, d1, .int x2] [] σ (wI q.1) q.2 ∧ Gr q.2 := by
  intro n
  induction n with
  | zero =>
    intro x2 d1 σ q h hG
    exact absurd (show (none : Option (Int32 × aSt)) = some q from h) (by simp)
  | succ n ih =>
    intro x2 d1 σ q h hG
    have hk133 : ∀ (x2 : Int32) (d1 : Value) (σ : aSt) (q : Int32 × aSt), H_X12_read_133 N n x2 σ = some q → Gr σ → Ev xs L 133 133 [.ref 235, d1, .int x2] [] σ (wI q.1) q.2 ∧ Gr q.2 := ih
    have h : (if (aI σ 235 13) ≠ 0 then J_X12_read_155 N x2 σ else oB (F_X12_is N 0 σ) fun y12 σ13 => if y12 ≠ 0 then J_X12_read_155 N x2 σ13 else oB (F_X12_tellRule N σ13) fun y18 σ19 => (H_X12_read_133 N n) x2 σ19) = some q := h
    refine ev_a (fun he => ev_aload rfl rfl he) ?_
    refine ev_a (fun he => ev_getI rfl (gr_ob (n := 80) hG rfl) he) ?_
    refine ev_b (c := (aI σ 235 13) ≠ 0) (fun ht hf => ev_ifne rfl ht hf) (fun hc11 => ?_) (fun hc11 => ?_)
    · rw [if_pos hc11] at h
      exact TJ_X12_read_155 xs L N x2 (d1) σ q h hG
    · rw [if_neg hc11] at h
      refine ev_a (fun he => ev_aload rfl rfl he) ?_
      refine ev_a (fun he => ev_push rfl he) ?_
      obtain ⟨y12, σ13, h14, h⟩ := oB_inv h
      obtain ⟨c15, hG16⟩ := T_X12_is xs L N 0 σ (y12, σ13) h14 hG
      refine ev_a (fun he => ev_callV (as := [.int 0]) rfl (gr_ob (n := 80) hG rfl) rfl rfl rfl (Nat.le_of_ble_eq_true rfl) (Nat.le_of_ble_eq_true rfl) c15 he) ?_
      refine ev_b (c := y12 ≠ 0) (fun ht hf => ev_ifne rfl ht hf) (fun hc17 => ?_) (fun hc17 => ?_)
      · rw [if_pos hc17] at h
        exact TJ_X12_read_155 xs L N x2 (d1) σ13 q h hG16
      · rw [if_neg hc17] at h
        refine ev_a (fun he => ev_aload rfl rfl he) ?_
        obtain ⟨y18, σ19, h20, h⟩ := oB_inv h
        obtain ⟨c21, hG22⟩ := T_X12_tellRule xs L N σ13 (y18, σ19) h20 hG16
        refine ev_a (fun he => ev_callV (as := []) rfl (gr_ob (n := 80) hG16 rfl) rfl rfl rfl (Nat.le_of_ble_eq_true rfl) (Nat.le_of_ble_eq_true rfl) c21 he) ?_
        refine ev_a (fun he => ev_goto rfl he) ?_
        exact hk133 x2 (d1) σ19 q h hG22
def H_X12_read_26 (N : Nat) : Nat → Int32 → Int32 → aSt → Option (Int32 × aSt)
  | 0, _, _, _ => none
  | n + 1, x1, x2, σ => if (aI σ 235 4) ≤ x2 then lt (aWI σ 235 2 0) fun σ24 => oB (F_X12_cut N σ24) fun y27 σ28 => lt (aWI σ28 235 11 0) fun σ32 => lt (aWI σ32 235 12 0) fun σ35 => lt (aWI σ35 235 13 0) fun σ38 => lt (aWI σ38 235 15 0) fun σ41 => cO (¬ ((x1 + 1) < 0 ∨ 7 ≤ (x1 + 1).toNatClampNeg)) (lt (aWI σ41 235 19 (((2 * (x1 + 1)) + 1) - (aI σ41 243 (x1 + 1).toNatClampNeg))) fun σ45 => cO (¬ ((aI σ45 235 19) < 0 ∨ 14 ≤ (aI σ45 235 19).toNatClampNeg)) (lt (aWI σ45 244 (aI σ45 235 19).toNatClampNeg 0) fun σ49 => cO (¬ ((aI σ49 235 19) < 0 ∨ 14 ≤ (aI σ49 235 19).toNatClampNeg)) (lt (aWI σ49 250 (aI σ49 235 19).toNatClampNeg 0) fun σ53 => lt (aWI σ53 235 32 (500 * (aI σ53 235 19))) fun σ56 => H_X12_read_133 N N (x1 + 1) σ56))) else cO (¬ (x2 < 0 ∨ 2000 ≤ x2.toNatClampNeg)) (cO (¬ (x2 < 0 ∨ 2000 ≤ x2.toNatClampNeg)) (lt (aWI σ 237 x2.toNatClampNeg (vp_nar .byte (aI σ 236 x2.toNatClampNeg))) fun σ61 => (H_X12_read_26 N n) x1 (x2 + 1) σ61))
set_option maxRecDepth 20000 in
set_option maxHeartbeats 4000000 in
theorem TH_X12_read_26 (xs : Nat → Int32) (L : Nat) (N : Nat) : ∀ (n : Nat) (x1 : Int32) (x2 : Int32) (σ : aSt) (q : Int32 × aSt), H_X12_read_26 N n x1 x2 σ = some q → Gr σ → Ev xs L 133 26 [.ref 235, .int x1, .int x2] [] σ (wI q.1) q.2 ∧ Gr q.2 := by
  intro n
  induction n with
  | zero =>
    intro x1 x2 σ q h hG
    exact absurd (show (none : Option (Int32 × aSt)) = some q from h) (by simp)
  | succ n ih =>
    intro x1 x2 σ q h hG
    have hk26 : ∀ (x1 : Int32) (x2 : Int32) (σ : aSt) (q : Int32 × aSt), H_X12_read_26 N n x1 x2 σ = some q → Gr σ → Ev xs L 133 26 [.ref 235, .int x1, .int x2] [] σ (wI q.1) q.2 ∧ Gr q.2 := ih
    have h : (if (aI σ 235 4) ≤ x2 then lt (aWI σ 235 2 0) fun σ24 => oB (F_X12_cut N σ24) fun y27 σ28 => lt (aWI σ28 235 11 0) fun σ32 => lt (aWI σ32 235 12 0) fun σ35 => lt (aWI σ35 235 13 0) fun σ38 => lt (aWI σ38 235 15 0) fun σ41 => cO (¬ ((x1 + 1) < 0 ∨ 7 ≤ (x1 + 1).toNatClampNeg)) (lt (aWI σ41 235 19 (((2 * (x1 + 1)) + 1) - (aI σ41 243 (x1 + 1).toNatClampNeg))) fun σ45 => cO (¬ ((aI σ45 235 19) < 0 ∨ 14 ≤ (aI σ45 235 19).toNatClampNeg)) (lt (aWI σ45 244 (aI σ45 235 19).toNatClampNeg 0) fun σ49 => cO (¬ ((aI σ49 235 19) < 0 ∨ 14 ≤ (aI σ49 235 19).toNatClampNeg)) (lt (aWI σ49 250 (aI σ49 235 19).toNatClampNeg 0) fun σ53 => lt (aWI σ53 235 32 (500 * (aI σ53 235 19))) fun σ56 => H_X12_read_133 N N (x1 + 1) σ56))) else cO (¬ (x2 < 0 ∨ 2000 ≤ x2.toNatClampNeg)) (cO (¬ (x2 < 0 ∨ 2000 ≤ x2.toNatClampNeg)) (lt (aWI σ 237 x2.toNatClampNeg (vp_nar .byte (aI σ 236 x2.toNatClampNeg))) fun σ61 => (H_X12_read_26 N n) x1 (x2 + 1) σ61))) = some q := h
    refine ev_a (fun he => ev_iload rfl rfl he) ?_
    refine ev_a (fun he => ev_aload rfl rfl he) ?_
    refine ev_a (fun he => ev_getI rfl (gr_ob (n := 80) hG rfl) he) ?_
    refine ev_b (c := (aI σ 235 4) ≤ x2) (fun ht hf => ev_cge rfl ht hf) (fun hc23 => ?_) (fun hc23 => ?_)
    · rw [if_pos hc23] at h
      refine ev_a (fun he => ev_aload rfl rfl he) ?_
      refine ev_a (fun he => ev_push rfl he) ?_
      obtain ⟨σ24, e25, h⟩ := lt_inv h
      have hG26 : Gr σ24 := gr_wi e25 hG
      refine ev_a (fun he => ev_putI rfl (gr_ob (n := 80) hG rfl) e25 he) ?_
      refine ev_a (fun he => ev_aload rfl rfl he) ?_
      obtain ⟨y27, σ28, h29, h⟩ := oB_inv h
      obtain ⟨c30, hG31⟩ := T_X12_cut xs L N σ24 (y27, σ28) h29 hG26
      refine ev_a (fun he => ev_callV (as := []) rfl (gr_ob (n := 80) hG26 rfl) rfl rfl rfl (Nat.le_of_ble_eq_true rfl) (Nat.le_of_ble_eq_true rfl) c30 he) ?_
      refine ev_a (fun he => ev_aload rfl rfl he) ?_
      refine ev_a (fun he => ev_push rfl he) ?_
      obtain ⟨σ32, e33, h⟩ := lt_inv h
      have hG34 : Gr σ32 := gr_wi e33 hG31
      refine ev_a (fun he => ev_putI rfl (gr_ob (n := 80) hG31 rfl) e33 he) ?_
      refine ev_a (fun he => ev_aload rfl rfl he) ?_
      refine ev_a (fun he => ev_push rfl he) ?_
      obtain ⟨σ35, e36, h⟩ := lt_inv h
      have hG37 : Gr σ35 := gr_wi e36 hG34
      refine ev_a (fun he => ev_putI rfl (gr_ob (n := 80) hG34 rfl) e36 he) ?_
      refine ev_a (fun he => ev_aload rfl rfl he) ?_
      refine ev_a (fun he => ev_push rfl he) ?_
      obtain ⟨σ38, e39, h⟩ := lt_inv h
      have hG40 : Gr σ38 := gr_wi e39 hG37
      refine ev_a (fun he => ev_putI rfl (gr_ob (n := 80) hG37 rfl) e39 he) ?_
      refine ev_a (fun he => ev_aload rfl rfl he) ?_
      refine ev_a (fun he => ev_push rfl he) ?_
      obtain ⟨σ41, e42, h⟩ := lt_inv h
      have hG43 : Gr σ41 := gr_wi e42 hG40
      refine ev_a (fun he => ev_putI rfl (gr_ob (n := 80) hG40 rfl) e42 he) ?_
      refine ev_a (fun he => ev_iload rfl rfl he) ?_
      refine ev_a (fun he => ev_push rfl he) ?_
      refine ev_a (fun he => ev_bin (z := x1 + 1) rfl rfl he) ?_
      refine ev_a (fun he => ev_istore (ls' := [.ref 235, .int x1, .int (x1 + 1)]) rfl (Nat.le_of_ble_eq_true rfl) rfl he) ?_
      refine ev_a (fun he => ev_aload rfl rfl he) ?_
      refine ev_a (fun he => ev_push rfl he) ?_
      refine ev_a (fun he => ev_iload rfl rfl he) ?_
      refine ev_a (fun he => ev_bin (z := 2 * (x1 + 1)) rfl rfl he) ?_
      refine ev_a (fun he => ev_push rfl he) ?_
      refine ev_a (fun he => ev_bin (z := (2 * (x1 + 1)) + 1) rfl rfl he) ?_
      refine ev_a (fun he => ev_aload rfl rfl he) ?_
      refine ev_a (fun he => ev_getR rfl (gr_ob (n := 80) hG43 rfl) (gr_p (a := 235) (k := 18) (b := 243) hG43 rfl) he) ?_
      refine ev_a (fun he => ev_iload rfl rfl he) ?_
      obtain ⟨hc44, h⟩ := cO_inv h
      refine ev_a (fun he => ev_aldI (k := (x1 + 1).toNatClampNeg) rfl (gr_ar hG43 rfl) hc44 rfl he) ?_
      refine ev_a (fun he => ev_bin (z := ((2 * (x1 + 1)) + 1) - (aI σ41 243 (x1 + 1).toNatClampNeg)) rfl rfl he) ?_
      obtain ⟨σ45, e46, h⟩ := lt_inv h
      have hG47 : Gr σ45 := gr_wi e46 hG43
      refine ev_a (fun he => ev_putI rfl (gr_ob (n := 80) hG43 rfl) e46 he) ?_
      refine ev_a (fun he => ev_aload rfl rfl he) ?_
      refine ev_a (fun he => ev_getR rfl (gr_ob (n := 80) hG47 rfl) (gr_p (a := 235) (k := 20) (b := 244) hG47 rfl) he) ?_
      refine ev_a (fun he => ev_aload rfl rfl he) ?_
      refine ev_a (fun he => ev_getI rfl (gr_ob (n := 80) hG47 rfl) he) ?_
      refine ev_a (fun he => ev_push rfl he) ?_
      obtain ⟨hc48, h⟩ := cO_inv h
      obtain ⟨σ49, e50, h⟩ := lt_inv h
      have hG51 : Gr σ49 := gr_wi e50 hG47
      refine ev_a (fun he => ev_astI (k := (aI σ45 235 19).toNatClampNeg) rfl (gr_ar hG47 rfl) hc48 rfl rfl e50 he) ?_
      refine ev_a (fun he => ev_aload rfl rfl he) ?_
      refine ev_a (fun he => ev_getR rfl (gr_ob (n := 80) hG51 rfl) (gr_p (a := 235) (k := 26) (b := 250) hG51 rfl) he) ?_
      refine ev_a (fun he => ev_aload rfl rfl he) ?_
      refine ev_a (fun he => ev_getI rfl (gr_ob (n := 80) hG51 rfl) he) ?_
      refine ev_a (fun he => ev_push rfl he) ?_
      obtain ⟨hc52, h⟩ := cO_inv h
      obtain ⟨σ53, e54, h⟩ := lt_inv h
      have hG55 : Gr σ53 := gr_wi e54 hG51
      refine ev_a (fun he => ev_astI (k := (aI σ49 235 19).toNatClampNeg) rfl (gr_ar hG51 rfl) hc52 rfl rfl e54 he) ?_
      refine ev_a (fun he => ev_aload rfl rfl he) ?_
      refine ev_a (fun he => ev_push rfl he) ?_
      refine ev_a (fun he => ev_aload rfl rfl he) ?_
      refine ev_a (fun he => ev_getI rfl (gr_ob (n := 80) hG55 rfl) he) ?_
      refine ev_a (fun he => ev_bin (z := 500 * (aI σ53 235 19)) rfl rfl he) ?_
      obtain ⟨σ56, e57, h⟩ := lt_inv h
      have hG58 : Gr σ56 := gr_wi e57 hG55
      refine ev_a (fun he => ev_putI rfl (gr_ob (n := 80) hG55 rfl) e57 he) ?_
      exact TH_X12_read_133 xs L N N (x1 + 1) (.int x1) σ56 q h hG58
    · rw [if_neg hc23] at h
      refine ev_a (fun he => ev_aload rfl rfl he) ?_
      refine ev_a (fun he => ev_getR rfl (gr_ob (n := 80) hG rfl) (gr_p (a := 235) (k := 3) (b := 237) hG rfl) he) ?_
      refine ev_a (fun he => ev_iload rfl rfl he) ?_
      refine ev_a (fun he => ev_aload rfl rfl he) ?_
      refine ev_a (fun he => ev_getR rfl (gr_ob (n := 80) hG rfl) (gr_p (a := 235) (k := 1) (b := 236) hG rfl) he) ?_
      refine ev_a (fun he => ev_iload rfl rfl he) ?_
      obtain ⟨hc59, h⟩ := cO_inv h
      refine ev_a (fun he => ev_aldI (k := x2.toNatClampNeg) rfl (gr_ar hG rfl) hc59 rfl he) ?_
      obtain ⟨hc60, h⟩ := cO_inv h
      obtain ⟨σ61, e62, h⟩ := lt_inv h
      have hG63 : Gr σ61 := gr_wi e62 hG
      refine ev_a (fun he => ev_astI (k := x2.toNatClampNeg) rfl (gr_ar hG rfl) hc60 rfl rfl e62 he) ?_
      refine ev_a (fun he => ev_iinc (ls' := [.ref 235, .int x1, .int (x2 + 1)]) rfl rfl rfl (Nat.le_of_ble_eq_true rfl) rfl he) ?_
      refine ev_a (fun he => ev_goto rfl he) ?_
      exact hk26 x1 (x2 + 1) σ61 q h hG63
def F_X12_read (N : Nat) (x1 : Int32) (σ : aSt) : Option (Int32 × aSt) := if x1 < ((-1)) then J_X12_read_13 N σ else if x1 < (aI σ 235 43) then lt (aWI σ 235 4 (aI σ 235 2)) fun σ66 => H_X12_read_26 N N x1 0 σ66 else J_X12_read_13 N σ
set_option maxRecDepth 20000 in
set_option maxHeartbeats 4000000 in
theorem T_X12_read (xs : Nat → Int32) (L : Nat) (N : Nat) (x1 : Int32) (σ : aSt) (q : Int32 × aSt) (h : F_X12_read N x1 σ = some q) (hG : Gr σ) : Cal xs L 133 [.ref 235, .int x1] σ (wI q.1) q.2 ∧ Gr q.2 := by
  have h : (if x1 < ((-1)) then J_X12_read_13 N σ else if x1 < (aI σ 235 43) then lt (aWI σ 235 4 (aI σ 235 2)) fun σ66 => H_X12_read_26 N N x1 0 σ66 else J_X12_read_13 N σ) = some q := h
  show Ev xs L 133 0 [.ref 235, .int x1, aU] [] σ (wI q.1) q.2 ∧ Gr q.2
  refine ev_a (fun he => ev_iload rfl rfl he) ?_
  refine ev_a (fun he => ev_push rfl he) ?_
  refine ev_b (c := x1 < ((-1))) (fun ht hf => ev_clt rfl ht hf) (fun hc64 => ?_) (fun hc64 => ?_)
  · rw [if_pos hc64] at h
    exact TJ_X12_read_13 xs L N (.ref 235) (.int x1) (aU) σ q h hG
  · rw [if_neg hc64] at h
    refine ev_a (fun he => ev_iload rfl rfl he) ?_
    refine ev_a (fun he => ev_aload rfl rfl he) ?_
    refine ev_a (fun he => ev_getI rfl (gr_ob (n := 80) hG rfl) he) ?_
    refine ev_b (c := x1 < (aI σ 235 43)) (fun ht hf => ev_clt rfl ht hf) (fun hc65 => ?_) (fun hc65 => ?_)
    · rw [if_pos hc65] at h
      refine ev_a (fun he => ev_aload rfl rfl he) ?_
      refine ev_a (fun he => ev_aload rfl rfl he) ?_
      refine ev_a (fun he => ev_getI rfl (gr_ob (n := 80) hG rfl) he) ?_
      obtain ⟨σ66, e67, h⟩ := lt_inv h
      have hG68 : Gr σ66 := gr_wi e67 hG
      refine ev_a (fun he => ev_putI rfl (gr_ob (n := 80) hG rfl) e67 he) ?_
      refine ev_a (fun he => ev_push rfl he) ?_
      refine ev_a (fun he => ev_istore (ls' := [.ref 235, .int x1, .int 0]) rfl (Nat.le_of_ble_eq_true rfl) rfl he) ?_
      exact TH_X12_read_26 xs L N N x1 0 σ66 q h hG68
    · rw [if_neg hc65] at h
      exact TJ_X12_read_13 xs L N (.ref 235) (.int x1) (aU) σ q h hG
def F_X12_place (N : Nat) (σ : aSt) : Option (Int32 × aSt) := some (aI σ 235 17, σ)
set_option maxRecDepth 20000 in
set_option maxHeartbeats 4000000 in
theorem T_X12_place (xs : Nat → Int32) (L : Nat) (N : Nat) (σ : aSt) (q : Int32 × aSt) (h : F_X12_place N σ = some q) (hG : Gr σ) : Cal xs L 134 [.ref 235] σ (wI q.1) q.2 ∧ Gr q.2 := by
  have h : (some (aI σ 235 17, σ)) = some q := h
  show Ev xs L 134 0 [.ref 235] [] σ (wI q.1) q.2 ∧ Gr q.2
  refine ev_a (fun he => ev_aload rfl rfl he) ?_
  refine ev_a (fun he => ev_getI rfl (gr_ob (n := 80) hG rfl) he) ?_
  cases h
  exact ⟨ev_retI rfl, hG⟩
def J_X12_isBuyer_17 (N : Nat) (s0 : Int32) (σ : aSt) : Option (Int32 × aSt) := cO (vp_nar .boolean s0 = s0) (some (s0, σ))
set_option maxRecDepth 20000 in
set_option maxHeartbeats 4000000 in
theorem TJ_X12_isBuyer_17 (xs : Nat → Int32) (L : Nat) (N : Nat) (s0 : Int32) (d0 : Value) (d1 : Value) (σ : aSt) (q : Int32 × aSt) (h : J_X12_isBuyer_17 N s0 σ = some q) (hG : Gr σ) : Ev xs L 140 17 [d0, d1] [.int s0] σ (wI q.1) q.2 ∧ Gr q.2 := by
  have h : (cO (vp_nar .boolean s0 = s0) (some (s0, σ))) = some q := h
  obtain ⟨hc1, h⟩ := cO_inv h
  cases h
  exact ⟨ev_retZ rfl hc1, hG⟩
def J_X12_isBuyer_16 (N : Nat) (σ : aSt) : Option (Int32 × aSt) := J_X12_isBuyer_17 N 0 σ
set_option maxRecDepth 20000 in
set_option maxHeartbeats 4000000 in
theorem TJ_X12_isBuyer_16 (xs : Nat → Int32) (L : Nat) (N : Nat) (d0 : Value) (d1 : Value) (σ : aSt) (q : Int32 × aSt) (h : J_X12_isBuyer_16 N  σ = some q) (hG : Gr σ) : Ev xs L 140 16 [d0, d1] [] σ (wI q.1) q.2 ∧ Gr q.2 := by
  have h : (J_X12_isBuyer_17 N 0 σ) = some q := h
  refine ev_a (fun he => ev_push rfl he) ?_
  exact TJ_X12_isBuyer_17 xs L N 0 (d0) (d1) σ q h hG
def F_X12_isBuyer (N : Nat) (x1 : Int32) (σ : aSt) : Option (Int32 × aSt) := if x1 < 0 then J_X12_isBuyer_16 N σ else if (aI σ 235 43) ≤ x1 then J_X12_isBuyer_16 N σ else J_X12_isBuyer_17 N 1 σ
set_option maxRecDepth 20000 in
set_option maxHeartbeats 4000000 in
theorem T_X12_isBuyer (xs : Nat → Int32) (L : Nat) (N : Nat) (x1 : Int32) (σ : aSt) (q : Int32 × aSt) (h : F_X12_isBuyer N x1 σ = some q) (hG : Gr σ) : Cal xs L 140 [.ref 235, .int x1] σ (wI q.1) q.2 ∧ Gr q.2 := by
  have h : (if x1 < 0 then J_X12_isBuyer_16 N σ else if (aI σ 235 43) ≤ x1 then J_X12_isBuyer_16 N σ else J_X12_isBuyer_17 N 1 σ) = some q := h
  show Ev xs L 140 0 [.ref 235, .int x1] [] σ (wI q.1) q.2 ∧ Gr q.2
  refine ev_a (fun he => ev_iload rfl rfl he) ?_
  refine ev_b (c := x1 < 0) (fun ht hf => ev_iflt rfl ht hf) (fun hc2 => ?_) (fun hc2 => ?_)
  · rw [if_pos hc2] at h
    exact TJ_X12_isBuyer_16 xs L N (.ref 235) (.int x1) σ q h hG
  · rw [if_neg hc2] at h
    refine ev_a (fun he => ev_iload rfl rfl he) ?_
    refine ev_a (fun he => ev_aload rfl rfl he) ?_
    refine ev_a (fun he => ev_getI rfl (gr_ob (n := 80) hG rfl) he) ?_
    refine ev_b (c := (aI σ 235 43) ≤ x1) (fun ht hf => ev_cge rfl ht hf) (fun hc3 => ?_) (fun hc3 => ?_)
    · rw [if_pos hc3] at h
      exact TJ_X12_isBuyer_16 xs L N (.ref 235) (.int x1) σ q h hG
    · rw [if_neg hc3] at h
      refine ev_a (fun he => ev_push rfl he) ?_
      refine ev_a (fun he => ev_goto rfl he) ?_
      exact TJ_X12_isBuyer_17 xs L N 1 (.ref 235) (.int x1) σ q h hG
def J_X12_isLot_17 (N : Nat) (s0 : Int32) (σ : aSt) : Option (Int32 × aSt) := cO (vp_nar .boolean s0 = s0) (some (s0, σ))
set_option maxRecDepth 20000 in
set_option maxHeartbeats 4000000 in
theorem TJ_X12_isLot_17 (xs : Nat → Int32) (L : Nat) (N : Nat) (s0 : Int32) (d0 : Value) (d1 : Value) (σ : aSt) (q : Int32 × aSt) (h : J_X12_isLot_17 N s0 σ = some q) (hG : Gr σ) : Ev xs L 141 17 [d0, d1] [.int s0] σ (wI q.1) q.2 ∧ Gr q.2 := by
  have h : (cO (vp_nar .boolean s0 = s0) (some (s0, σ))) = some q := h
  obtain ⟨hc1, h⟩ := cO_inv h
  cases h
  exact ⟨ev_retZ rfl hc1, hG⟩
def J_X12_isLot_16 (N : Nat) (σ : aSt) : Option (Int32 × aSt) := J_X12_isLot_17 N 0 σ
set_option maxRecDepth 20000 in
set_option maxHeartbeats 4000000 in
theorem TJ_X12_isLot_16 (xs : Nat → Int32) (L : Nat) (N : Nat) (d0 : Value) (d1 : Value) (σ : aSt) (q : Int32 × aSt) (h : J_X12_isLot_16 N  σ = some q) (hG : Gr σ) : Ev xs L 141 16 [d0, d1] [] σ (wI q.1) q.2 ∧ Gr q.2 := by
  have h : (J_X12_isLot_17 N 0 σ) = some q := h
  refine ev_a (fun he => ev_push rfl he) ?_
  exact TJ_X12_isLot_17 xs L N 0 (d0) (d1) σ q h hG
def F_X12_isLot (N : Nat) (x1 : Int32) (σ : aSt) : Option (Int32 × aSt) := if x1 < 0 then J_X12_isLot_16 N σ else if (aI σ 235 37) ≤ x1 then J_X12_isLot_16 N σ else J_X12_isLot_17 N 1 σ
set_option maxRecDepth 20000 in
set_option maxHeartbeats 4000000 in
theorem T_X12_isLot (xs : Nat → Int32) (L : Nat) (N : Nat) (x1 : Int32) (σ : aSt) (q : Int32 × aSt) (h : F_X12_isLot N x1 σ = some q) (hG : Gr σ) : Cal xs L 141 [.ref 235, .int x1] σ (wI q.1) q.2 ∧ Gr q.2 := by
  have h : (if x1 < 0 then J_X12_isLot_16 N σ else if (aI σ 235 37) ≤ x1 then J_X12_isLot_16 N σ else J_X12_isLot_17 N 1 σ) = some q := h
  show Ev xs L 141 0 [.ref 235, .int x1] [] σ (wI q.1) q.2 ∧ Gr q.2
  refine ev_a (fun he => ev_iload rfl rfl he) ?_
  refine ev_b (c := x1 < 0) (fun ht hf => ev_iflt rfl ht hf) (fun hc2 => ?_) (fun hc2 => ?_)
  · rw [if_pos hc2] at h
    exact TJ_X12_isLot_16 xs L N (.ref 235) (.int x1) σ q h hG
  · rw [if_neg hc2] at h
    refine ev_a (fun he => ev_iload rfl rfl he) ?_
    refine ev_a (fun he => ev_aload rfl rfl he) ?_
    refine ev_a (fun he => ev_getI rfl (gr_ob (n := 80) hG rfl) he) ?_
    refine ev_b (c := (aI σ 235 37) ≤ x1) (fun ht hf => ev_cge rfl ht hf) (fun hc3 => ?_) (fun hc3 => ?_)
    · rw [if_pos hc3] at h
      exact TJ_X12_isLot_16 xs L N (.ref 235) (.int x1) σ q h hG
    · rw [if_neg hc3] at h
      refine ev_a (fun he => ev_push rfl he) ?_
      refine ev_a (fun he => ev_goto rfl he) ?_
      exact TJ_X12_isLot_17 xs L N 1 (.ref 235) (.int x1) σ q h hG
def J_X12_isKind_15 (N : Nat) (s0 : Int32) (σ : aSt) : Option (Int32 × aSt) := cO (vp_nar .boolean s0 = s0) (some (s0, σ))
set_option maxRecDepth 20000 in
set_option maxHeartbeats 4000000 in
theorem TJ_X12_isKind_15 (xs : Nat → Int32) (L : Nat) (N : Nat) (s0 : Int32) (d0 : Value) (σ : aSt) (q : Int32 × aSt) (h : J_X12_isKind_15 N s0 σ = some q) (hG : Gr σ) : Ev xs L 142 15 [d0] [.int s0] σ (wI q.1) q.2 ∧ Gr q.2 := by
  have h : (cO (vp_nar .boolean s0 = s0) (some (s0, σ))) = some q := h
  obtain ⟨hc1, h⟩ := cO_inv h
  cases h
  exact ⟨ev_retZ rfl hc1, hG⟩
def J_X12_isKind_14 (N : Nat) (σ : aSt) : Option (Int32 × aSt) := J_X12_isKind_15 N 0 σ
set_option maxRecDepth 20000 in
set_option maxHeartbeats 4000000 in
theorem TJ_X12_isKind_14 (xs : Nat → Int32) (L : Nat) (N : Nat) (d0 : Value) (σ : aSt) (q : Int32 × aSt) (h : J_X12_isKind_14 N  σ = some q) (hG : Gr σ) : Ev xs L 142 14 [d0] [] σ (wI q.1) q.2 ∧ Gr q.2 := by
  have h : (J_X12_isKind_15 N 0 σ) = some q := h
  refine ev_a (fun he => ev_push rfl he) ?_
  exact TJ_X12_isKind_15 xs L N 0 (d0) σ q h hG
def F_X12_isKind (N : Nat) (x0 : Int32) (σ : aSt) : Option (Int32 × aSt) := if x0 < 0 then J_X12_isKind_14 N σ else if 6 ≤ x0 then J_X12_isKind_14 N σ else J_X12_isKind_15 N 1 σ
set_option maxRecDepth 20000 in
set_option maxHeartbeats 4000000 in
theorem T_X12_isKind (xs : Nat → Int32) (L : Nat) (N : Nat) (x0 : Int32) (σ : aSt) (q : Int32 × aSt) (h : F_X12_isKind N x0 σ = some q) (hG : Gr σ) : Cal xs L 142 [.int x0] σ (wI q.1) q.2 ∧ Gr q.2 := by
  have h : (if x0 < 0 then J_X12_isKind_14 N σ else if 6 ≤ x0 then J_X12_isKind_14 N σ else J_X12_isKind_15 N 1 σ) = some q := h
  show Ev xs L 142 0 [.int x0] [] σ (wI q.1) q.2 ∧ Gr q.2
  refine ev_a (fun he => ev_iload rfl rfl he) ?_
  refine ev_b (c := x0 < 0) (fun ht hf => ev_iflt rfl ht hf) (fun hc2 => ?_) (fun hc2 => ?_)
  · rw [if_pos hc2] at h
    exact TJ_X12_isKind_14 xs L N (.int x0) σ q h hG
  · rw [if_neg hc2] at h
    refine ev_a (fun he => ev_iload rfl rfl he) ?_
    refine ev_a (fun he => ev_push rfl he) ?_
    refine ev_b (c := 6 ≤ x0) (fun ht hf => ev_cge rfl ht hf) (fun hc3 => ?_) (fun hc3 => ?_)
    · rw [if_pos hc3] at h
      exact TJ_X12_isKind_14 xs L N (.int x0) σ q h hG
    · rw [if_neg hc3] at h
      refine ev_a (fun he => ev_push rfl he) ?_
      refine ev_a (fun he => ev_goto rfl he) ?_
      exact TJ_X12_isKind_15 xs L N 1 (.int x0) σ q h hG
