def J_X12_goes_368 (N : Nat) (k113 : Int32 → Int32 → Int32 → Int32 → aSt → Option (Int32 × aSt)) (k262 : Int32 → Int32 → Int32 → Int32 → Int32 → aSt → Option (Int32 × aSt)) (x1 : Int32) (x2 : Int32) (x3 : Int32) (x4 : Int32) (x5 : Int32) (σ : aSt) : Option (Int32 × aSt) := k262 x1 x2 x3 x4 (x5 + 1) σ
set_option maxRecDepth 20000 in
set_option maxHeartbeats 4000000 in
theorem TJ_X12_goes_368 (xs : Nat → Int32) (L : Nat) (N : Nat) (k113 : Int32 → Int32 → Int32 → Int32 → aSt → Option (Int32 × aSt)) (k262 : Int32 → Int32 → Int32 → Int32 → Int32 → aSt → Option (Int32 × aSt)) (hk113 : ∀ (x1 : Int32) (x2 : Int32) (x3 : Int32) (x4 : Int32) (d5 : Value) (d6 : Value) (σ : aSt) (q : Int32 × aSt), k113 x1 x2 x3 x4 σ = some q → Gr σ → Ev xs L 157 113 [.ref 235, .int x1, .int x2, .int x3, .int x4, d5, d6] [] σ (wI q.1) q.2 ∧ Gr q.2) (hk262 : ∀ (x1 : Int32) (x2 : Int32) (x3 : Int32) (x4 : Int32) (x5 : Int32) (d6 : Value) (σ : aSt) (q : Int32 × aSt), k262 x1 x2 x3 x4 x5 σ = some q → Gr σ → Ev xs L 157 262 [.ref 235, .int x1, .int x2, .int x3, .int x4, .int x5, d6] [] σ (wI q.1) q.2 ∧ Gr q.2) (x1 : Int32) (x2 : Int32) (x3 : Int32) (x4 : Int32) (x5 : Int32) (d6 : Value) (σ : aSt) (q : Int32 × aSt) (h : J_X12_goes_368 N k113 k262 x1 x2 x3 x4 x5 σ = some q) (hG : Gr σ) : Ev xs L 157 368 [.ref 235, .int x1, .int x2, .int x3, .int x4, .int x5, d6] [] σ (wI q.1) q.2 ∧ Gr q.2 := by
  have h : (k262 x1 x2 x3 x4 (x5 + 1) σ) = some q := h
  refine ev_a (fun he => ev_iinc (ls' := [.ref 235, .int x1, .int x2, .int x3, .int x4, .int (x5 + 1), d6]) rfl rfl rfl (Nat.le_of_ble_eq_true rfl) rfl he) ?_
  refine ev_a (fun he => ev_goto rfl he) ?_
  exact hk262 x1 x2 x3 x4 (x5 + 1) (d6) σ q h hG
def H_X12_goes_262 (N : Nat) (k113 : Int32 → Int32 → Int32 → Int32 → aSt → Option (Int32 × aSt)) : Nat → Int32 → Int32 → Int32 → Int32 → Int32 → aSt → Option (Int32 × aSt)
  | 0, _, _, _, _, _, _ => none
  | n + 1, x1, x2, x3, x4, x5, σ => if 3 ≤ x5 then k113 x1 x2 x3 x4 σ else cO (¬ (x5 < 0 ∨ 3 ≤ x5.toNatClampNeg)) (if (aI σ 278 x5.toNatClampNeg) ≠ ((-1)) then cO (¬ (x5 < 0 ∨ 3 ≤ x5.toNatClampNeg)) (cO (¬ ((aI σ 278 x5.toNatClampNeg) < 0 ∨ 24 ≤ (aI σ 278 x5.toNatClampNeg).toNatClampNeg)) (if (aI σ 279 x5.toNatClampNeg) ≤ (aI σ 285 (aI σ 278 x5.toNatClampNeg).toNatClampNeg) then cO (¬ ((aI σ 278 x5.toNatClampNeg) < 0 ∨ 24 ≤ (aI σ 278 x5.toNatClampNeg).toNatClampNeg)) (lt (aWI σ 280 (aI σ 278 x5.toNatClampNeg).toNatClampNeg ((-1))) fun σ8 => cO (¬ ((aI σ 278 x5.toNatClampNeg) < 0 ∨ 24 ≤ (aI σ 278 x5.toNatClampNeg).toNatClampNeg)) (cO (¬ ((aI σ 278 x5.toNatClampNeg) < 0 ∨ 24 ≤ (aI σ 278 x5.toNatClampNeg).toNatClampNeg)) (lt (aWI σ8 281 (aI σ 278 x5.toNatClampNeg).toNatClampNeg (aI σ8 285 (aI σ 278 x5.toNatClampNeg).toNatClampNeg)) fun σ13 => cO (¬ ((aI σ 278 x5.toNatClampNeg) < 0 ∨ 24 ≤ (aI σ 278 x5.toNatClampNeg).toNatClampNeg)) (lt (aWI σ13 282 (aI σ 278 x5.toNatClampNeg).toNatClampNeg x4) fun σ17 => cO (¬ ((aI σ 278 x5.toNatClampNeg) < 0 ∨ 24 ≤ (aI σ 278 x5.toNatClampNeg).toNatClampNeg)) (lt (aWI σ17 283 (aI σ 278 x5.toNatClampNeg).toNatClampNeg x5) fun σ21 => cO (¬ (x5 < 0 ∨ 3 ≤ x5.toNatClampNeg)) (lt (aWI σ21 278 x5.toNatClampNeg ((-1))) fun σ25 => J_X12_goes_368 N k113 (H_X12_goes_262 N k113 n) x1 x2 (x3 + 1) x4 x5 σ25)))))) else cO (¬ (x5 < 0 ∨ 3 ≤ x5.toNatClampNeg)) (cO (¬ (x5 < 0 ∨ 3 ≤ x5.toNatClampNeg)) (lt (aWI σ 279 x5.toNatClampNeg ((aI σ 279 x5.toNatClampNeg) - 1)) fun σ30 => J_X12_goes_368 N k113 (H_X12_goes_262 N k113 n) x1 x2 x3 x4 x5 σ30)))) else J_X12_goes_368 N k113 (H_X12_goes_262 N k113 n) x1 x2 x3 x4 x5 σ)
set_option maxRecDepth 20000 in
set_option maxHeartbeats 4000000 in
theorem TH_X12_goes_262 (xs : Nat → Int32) (L : Nat) (N : Nat) (k113 : Int32 → Int32 → Int32 → Int32 → aSt → Option (Int32 × aSt)) (hk113 : ∀ (x1 : Int32) (x2 : Int32) (x3 : Int32) (x4 : Int32) (d5 : Value) (d6 : Value) (σ : aSt) (q : Int32 × aSt), k113 x1 x2 x3 x4 σ = some q → Gr σ → Ev xs L 157 113 [.ref 235, .int x1, .int x2, .int x3, .int x4, d5, d6] [] σ (wI q.1) q.2 ∧ Gr q.2) : ∀ (n : Nat) (x1 : Int32) (x2 : Int32) (x3 : Int32) (x4 : Int32) (x5 : Int32) (d6 : Value) (σ : aSt) (q : Int32 × aSt), H_X12_goes_262 N k113 n x1 x2 x3 x4 x5 σ = some q → Gr σ → Ev xs L 157 262 [.ref 235, .int x1, .int x2, .int x3, .int x4, .int x5, d6] [] σ (wI q.1) q.2 ∧ Gr q.2 := by
  intro n
  induction n with
  | zero =>
    intro x1 x2 x3 x4 x5 d6 σ q h hG
    exact absurd (show (none : Option (Int32 × aSt)) = some q from h) (by simp)
  | succ n ih =>
    intro x1 x2 x3 x4 x5 d6 σ q h hG
    have hk262 : ∀ (x1 : Int32) (x2 : Int32) (x3 : Int32) (x4 : Int32) (x5 : Int32) (d6 : Value) (σ : aSt) (q : Int32 × aSt), H_X12_goes_262 N k113 n x1 x2 x3 x4 x5 σ = some q → Gr σ → Ev xs L 157 262 [.ref 235, .int x1, .int x2, .int x3, .int x4, .int x5, d6] [] σ (wI q.1) q.2 ∧ Gr q.2 := ih
    have h : (if 3 ≤ x5 then k113 x1 x2 x3 x4 σ else cO (¬ (x5 < 0 ∨ 3 ≤ x5.toNatClampNeg)) (if (aI σ 278 x5.toNatClampNeg) ≠ ((-1)) then cO (¬ (x5 < 0 ∨ 3 ≤ x5.toNatClampNeg)) (cO (¬ ((aI σ 278 x5.toNatClampNeg) < 0 ∨ 24 ≤ (aI σ 278 x5.toNatClampNeg).toNatClampNeg)) (if (aI σ 279 x5.toNatClampNeg) ≤ (aI σ 285 (aI σ 278 x5.toNatClampNeg).toNatClampNeg) then cO (¬ ((aI σ 278 x5.toNatClampNeg) < 0 ∨ 24 ≤ (aI σ 278 x5.toNatClampNeg).toNatClampNeg)) (lt (aWI σ 280 (aI σ 278 x5.toNatClampNeg).toNatClampNeg ((-1))) fun σ8 => cO (¬ ((aI σ 278 x5.toNatClampNeg) < 0 ∨ 24 ≤ (aI σ 278 x5.toNatClampNeg).toNatClampNeg)) (cO (¬ ((aI σ 278 x5.toNatClampNeg) < 0 ∨ 24 ≤ (aI σ 278 x5.toNatClampNeg).toNatClampNeg)) (lt (aWI σ8 281 (aI σ 278 x5.toNatClampNeg).toNatClampNeg (aI σ8 285 (aI σ 278 x5.toNatClampNeg).toNatClampNeg)) fun σ13 => cO (¬ ((aI σ 278 x5.toNatClampNeg) < 0 ∨ 24 ≤ (aI σ 278 x5.toNatClampNeg).toNatClampNeg)) (lt (aWI σ13 282 (aI σ 278 x5.toNatClampNeg).toNatClampNeg x4) fun σ17 => cO (¬ ((aI σ 278 x5.toNatClampNeg) < 0 ∨ 24 ≤ (aI σ 278 x5.toNatClampNeg).toNatClampNeg)) (lt (aWI σ17 283 (aI σ 278 x5.toNatClampNeg).toNatClampNeg x5) fun σ21 => cO (¬ (x5 < 0 ∨ 3 ≤ x5.toNatClampNeg)) (lt (aWI σ21 278 x5.toNatClampNeg ((-1))) fun σ25 => J_X12_goes_368 N k113 (H_X12_goes_262 N k113 n) x1 x2 (x3 + 1) x4 x5 σ25)))))) else cO (¬ (x5 < 0 ∨ 3 ≤ x5.toNatClampNeg)) (cO (¬ (x5 < 0 ∨ 3 ≤ x5.toNatClampNeg)) (lt (aWI σ 279 x5.toNatClampNeg ((aI σ 279 x5.toNatClampNeg) - 1)) fun σ30 => J_X12_goes_368 N k113 (H_X12_goes_262 N k113 n) x1 x2 x3 x4 x5 σ30)))) else J_X12_goes_368 N k113 (H_X12_goes_262 N k113 n) x1 x2 x3 x4 x5 σ)) = some q := h
    refine ev_a (fun he => ev_iload rfl rfl he) ?_
    refine ev_a (fun he => ev_push rfl he) ?_
    refine ev_b (c := 3 ≤ x5) (fun ht hf => ev_cge rfl ht hf) (fun hc1 => ?_) (fun hc1 => ?_)
    · rw [if_pos hc1] at h
      refine ev_a (fun he => ev_goto rfl he) ?_
      exact hk113 x1 x2 x3 x4 (.int x5) (d6) σ q h hG
    · rw [if_neg hc1] at h
      refine ev_a (fun he => ev_aload rfl rfl he) ?_
      refine ev_a (fun he => ev_getR rfl (gr_ob (n := 80) hG rfl) (gr_p (a := 235) (k := 61) (b := 278) hG rfl) he) ?_
      refine ev_a (fun he => ev_iload rfl rfl he) ?_
      obtain ⟨hc2, h⟩ := cO_inv h
      refine ev_a (fun he => ev_aldI (k := x5.toNatClampNeg) rfl (gr_ar hG rfl) hc2 rfl he) ?_
      refine ev_a (fun he => ev_istore (ls' := [.ref 235, .int x1, .int x2, .int x3, .int x4, .int x5, .int (aI σ 278 x5.toNatClampNeg)]) rfl (Nat.le_of_ble_eq_true rfl) rfl he) ?_
      refine ev_a (fun he => ev_iload rfl rfl he) ?_
      refine ev_a (fun he => ev_push rfl he) ?_
      refine ev_b (c := (aI σ 278 x5.toNatClampNeg) ≠ ((-1))) (fun ht hf => ev_cne rfl ht hf) (fun hc3 => ?_) (fun hc3 => ?_)
      · rw [if_pos hc3] at h
        refine ev_a (fun he => ev_aload rfl rfl he) ?_
        refine ev_a (fun he => ev_getR rfl (gr_ob (n := 80) hG rfl) (gr_p (a := 235) (k := 62) (b := 279) hG rfl) he) ?_
        refine ev_a (fun he => ev_iload rfl rfl he) ?_
        obtain ⟨hc4, h⟩ := cO_inv h
        refine ev_a (fun he => ev_aldI (k := x5.toNatClampNeg) rfl (gr_ar hG rfl) hc4 rfl he) ?_
        refine ev_a (fun he => ev_aload rfl rfl he) ?_
        refine ev_a (fun he => ev_getR rfl (gr_ob (n := 80) hG rfl) (gr_p (a := 235) (k := 68) (b := 285) hG rfl) he) ?_
        refine ev_a (fun he => ev_iload rfl rfl he) ?_
        obtain ⟨hc5, h⟩ := cO_inv h
        refine ev_a (fun he => ev_aldI (k := (aI σ 278 x5.toNatClampNeg).toNatClampNeg) rfl (gr_ar hG rfl) hc5 rfl he) ?_
        refine ev_b (c := (aI σ 279 x5.toNatClampNeg) ≤ (aI σ 285 (aI σ 278 x5.toNatClampNeg).toNatClampNeg)) (fun ht hf => ev_cle rfl ht hf) (fun hc6 => ?_) (fun hc6 => ?_)
        · rw [if_pos hc6] at h
          refine ev_a (fun he => ev_aload rfl rfl he) ?_
          refine ev_a (fun he => ev_getR rfl (gr_ob (n := 80) hG rfl) (gr_p (a := 235) (k := 63) (b := 280) hG rfl) he) ?_
          refine ev_a (fun he => ev_iload rfl rfl he) ?_
          refine ev_a (fun he => ev_push rfl he) ?_
          obtain ⟨hc7, h⟩ := cO_inv h
          obtain ⟨σ8, e9, h⟩ := lt_inv h
          have hG10 : Gr σ8 := gr_wi e9 hG
          refine ev_a (fun he => ev_astI (k := (aI σ 278 x5.toNatClampNeg).toNatClampNeg) rfl (gr_ar hG rfl) hc7 rfl rfl e9 he) ?_
          refine ev_a (fun he => ev_aload rfl rfl he) ?_
          refine ev_a (fun he => ev_getR rfl (gr_ob (n := 80) hG10 rfl) (gr_p (a := 235) (k := 64) (b := 281) hG10 rfl) he) ?_
          refine ev_a (fun he => ev_iload rfl rfl he) ?_
          refine ev_a (fun he => ev_aload rfl rfl he) ?_
          refine ev_a (fun he => ev_getR rfl (gr_ob (n := 80) hG10 rfl) (gr_p (a := 235) (k := 68) (b := 285) hG10 rfl) he) ?_
          refine ev_a (fun he => ev_iload rfl rfl he) ?_
          obtain ⟨hc11, h⟩ := cO_inv h
          refine ev_a (fun he => ev_aldI (k := (aI σ 278 x5.toNatClampNeg).toNatClampNeg) rfl (gr_ar hG10 rfl) hc11 rfl he) ?_
          obtain ⟨hc12, h⟩ := cO_inv h
          obtain ⟨σ13, e14, h⟩ := lt_inv h
          have hG15 : Gr σ13 := gr_wi e14 hG10
          refine ev_a (fun he => ev_astI (k := (aI σ 278 x5.toNatClampNeg).toNatClampNeg) rfl (gr_ar hG10 rfl) hc12 rfl rfl e14 he) ?_
          refine ev_a (fun he => ev_aload rfl rfl he) ?_
          refine ev_a (fun he => ev_getR rfl (gr_ob (n := 80) hG15 rfl) (gr_p (a := 235) (k := 65) (b := 282) hG15 rfl) he) ?_
          refine ev_a (fun he => ev_iload rfl rfl he) ?_
          refine ev_a (fun he => ev_iload rfl rfl he) ?_
          obtain ⟨hc16, h⟩ := cO_inv h
          obtain ⟨σ17, e18, h⟩ := lt_inv h
          have hG19 : Gr σ17 := gr_wi e18 hG15
          refine ev_a (fun he => ev_astI (k := (aI σ 278 x5.toNatClampNeg).toNatClampNeg) rfl (gr_ar hG15 rfl) hc16 rfl rfl e18 he) ?_
          refine ev_a (fun he => ev_aload rfl rfl he) ?_
          refine ev_a (fun he => ev_getR rfl (gr_ob (n := 80) hG19 rfl) (gr_p (a := 235) (k := 66) (b := 283) hG19 rfl) he) ?_
          refine ev_a (fun he => ev_iload rfl rfl he) ?_
          refine ev_a (fun he => ev_iload rfl rfl he) ?_
          obtain ⟨hc20, h⟩ := cO_inv h
          obtain ⟨σ21, e22, h⟩ := lt_inv h
          have hG23 : Gr σ21 := gr_wi e22 hG19
          refine ev_a (fun he => ev_astI (k := (aI σ 278 x5.toNatClampNeg).toNatClampNeg) rfl (gr_ar hG19 rfl) hc20 rfl rfl e22 he) ?_
          refine ev_a (fun he => ev_aload rfl rfl he) ?_
          refine ev_a (fun he => ev_getR rfl (gr_ob (n := 80) hG23 rfl) (gr_p (a := 235) (k := 61) (b := 278) hG23 rfl) he) ?_
          refine ev_a (fun he => ev_iload rfl rfl he) ?_
          refine ev_a (fun he => ev_push rfl he) ?_
          obtain ⟨hc24, h⟩ := cO_inv h
          obtain ⟨σ25, e26, h⟩ := lt_inv h
          have hG27 : Gr σ25 := gr_wi e26 hG23
          refine ev_a (fun he => ev_astI (k := x5.toNatClampNeg) rfl (gr_ar hG23 rfl) hc24 rfl rfl e26 he) ?_
          refine ev_a (fun he => ev_iinc (ls' := [.ref 235, .int x1, .int x2, .int (x3 + 1), .int x4, .int x5, .int (aI σ 278 x5.toNatClampNeg)]) rfl rfl rfl (Nat.le_of_ble_eq_true rfl) rfl he) ?_
          exact TJ_X12_goes_368 xs L N k113 (H_X12_goes_262 N k113 n) hk113 hk262 x1 x2 (x3 + 1) x4 x5 (.int (aI σ 278 x5.toNatClampNeg)) σ25 q h hG27
        · rw [if_neg hc6] at h
          refine ev_a (fun he => ev_aload rfl rfl he) ?_
          refine ev_a (fun he => ev_getR rfl (gr_ob (n := 80) hG rfl) (gr_p (a := 235) (k := 62) (b := 279) hG rfl) he) ?_
          refine ev_a (fun he => ev_iload rfl rfl he) ?_
          refine ev_a (fun he => ev_dup2 rfl he) ?_
          obtain ⟨hc28, h⟩ := cO_inv h
          refine ev_a (fun he => ev_aldI (k := x5.toNatClampNeg) rfl (gr_ar hG rfl) hc28 rfl he) ?_
          refine ev_a (fun he => ev_push rfl he) ?_
          refine ev_a (fun he => ev_bin (z := (aI σ 279 x5.toNatClampNeg) - 1) rfl rfl he) ?_
          obtain ⟨hc29, h⟩ := cO_inv h
          obtain ⟨σ30, e31, h⟩ := lt_inv h
          have hG32 : Gr σ30 := gr_wi e31 hG
          refine ev_a (fun he => ev_astI (k := x5.toNatClampNeg) rfl (gr_ar hG rfl) hc29 rfl rfl e31 he) ?_
          refine ev_a (fun he => ev_goto rfl he) ?_
          exact TJ_X12_goes_368 xs L N k113 (H_X12_goes_262 N k113 n) hk113 hk262 x1 x2 x3 x4 x5 (.int (aI σ 278 x5.toNatClampNeg)) σ30 q h hG32
      · rw [if_neg hc3] at h
        refine ev_a (fun he => ev_goto rfl he) ?_
        exact TJ_X12_goes_368 xs L N k113 (H_X12_goes_262 N k113 n) hk113 hk262 x1 x2 x3 x4 x5 (.int (aI σ 278 x5.toNatClampNeg)) σ q h hG
def J_X12_goes_253 (N : Nat) (k113 : Int32 → Int32 → Int32 → Int32 → aSt → Option (Int32 × aSt)) (k222 : Int32 → Int32 → Int32 → Int32 → Int32 → aSt → Option (Int32 × aSt)) (x1 : Int32) (x2 : Int32) (x3 : Int32) (x4 : Int32) (x5 : Int32) (σ : aSt) : Option (Int32 × aSt) := k222 x1 x2 x3 x4 (x5 + 1) σ
set_option maxRecDepth 20000 in
set_option maxHeartbeats 4000000 in
theorem TJ_X12_goes_253 (xs : Nat → Int32) (L : Nat) (N : Nat) (k113 : Int32 → Int32 → Int32 → Int32 → aSt → Option (Int32 × aSt)) (k222 : Int32 → Int32 → Int32 → Int32 → Int32 → aSt → Option (Int32 × aSt)) (hk113 : ∀ (x1 : Int32) (x2 : Int32) (x3 : Int32) (x4 : Int32) (d5 : Value) (d6 : Value) (σ : aSt) (q : Int32 × aSt), k113 x1 x2 x3 x4 σ = some q → Gr σ → Ev xs L 157 113 [.ref 235, .int x1, .int x2, .int x3, .int x4, d5, d6] [] σ (wI q.1) q.2 ∧ Gr q.2) (hk222 : ∀ (x1 : Int32) (x2 : Int32) (x3 : Int32) (x4 : Int32) (x5 : Int32) (d6 : Value) (σ : aSt) (q : Int32 × aSt), k222 x1 x2 x3 x4 x5 σ = some q → Gr σ → Ev xs L 157 222 [.ref 235, .int x1, .int x2, .int x3, .int x4, .int x5, d6] [] σ (wI q.1) q.2 ∧ Gr q.2) (x1 : Int32) (x2 : Int32) (x3 : Int32) (x4 : Int32) (x5 : Int32) (d6 : Value) (σ : aSt) (q : Int32 × aSt) (h : J_X12_goes_253 N k113 k222 x1 x2 x3 x4 x5 σ = some q) (hG : Gr σ) : Ev xs L 157 253 [.ref 235, .int x1, .int x2, .int x3, .int x4, .int x5, d6] [] σ (wI q.1) q.2 ∧ Gr q.2 := by
  have h : (k222 x1 x2 x3 x4 (x5 + 1) σ) = some q := h
  refine ev_a (fun he => ev_iinc (ls' := [.ref 235, .int x1, .int x2, .int x3, .int x4, .int (x5 + 1), d6]) rfl rfl rfl (Nat.le_of_ble_eq_true rfl) rfl he) ?_
  refine ev_a (fun he => ev_goto rfl he) ?_
  exact hk222 x1 x2 x3 x4 (x5 + 1) (d6) σ q h hG
def H_X12_goes_222 (N : Nat) (k113 : Int32 → Int32 → Int32 → Int32 → aSt → Option (Int32 × aSt)) : Nat → Int32 → Int32 → Int32 → Int32 → Int32 → aSt → Option (Int32 × aSt)
  | 0, _, _, _, _, _, _ => none
  | n + 1, x1, x2, x3, x4, x5, σ => if 3 ≤ x5 then H_X12_goes_262 N k113 N x1 x2 x3 x4 0 σ else cO (¬ (x5 < 0 ∨ 3 ≤ x5.toNatClampNeg)) (if (aI σ 278 x5.toNatClampNeg) = ((-1)) then J_X12_goes_253 N k113 (H_X12_goes_222 N k113 n) x1 x2 x3 x4 x5 σ else oB (F_X12_stops N x5 x4 σ) fun y36 σ37 => if y36 = 0 then J_X12_goes_253 N k113 (H_X12_goes_222 N k113 n) x1 x2 x3 x4 x5 σ37 else J_X12_goes_253 N k113 (H_X12_goes_222 N k113 n) x1 x2 (x3 + 1) x4 x5 σ37)
set_option maxRecDepth 20000 in
set_option maxHeartbeats 4000000 in
theorem TH_X12_goes_222 (xs : Nat → Int32) (L : Nat) (N : Nat) (k113 : Int32 → Int32 → Int32 → Int32 → aSt → Option (Int32 × aSt)) (hk113 : ∀ (x1 : Int32) (x2 : Int32) (x3 : Int32) (x4 : Int32) (d5 : Value) (d6 : Value) (σ : aSt) (q : Int32 × aSt), k113 x1 x2 x3 x4 σ = some q → Gr σ → Ev xs L 157 113 [.ref 235, .int x1, .int x2, .int x3, .int x4, d5, d6] [] σ (wI q.1) q.2 ∧ Gr q.2) : ∀ (n : Nat) (x1 : Int32) (x2 : Int32) (x3 : Int32) (x4 : Int32) (x5 : Int32) (d6 : Value) (σ : aSt) (q : Int32 × aSt), H_X12_goes_222 N k113 n x1 x2 x3 x4 x5 σ = some q → Gr σ → Ev xs L 157 222 [.ref 235, .int x1, .int x2, .int x3, .int x4, .int x5, d6] [] σ (wI q.1) q.2 ∧ Gr q.2 := by
  intro n
  induction n with
  | zero =>
    intro x1 x2 x3 x4 x5 d6 σ q h hG
    exact absurd (show (none : Option (Int32 × aSt)) = some q from h) (by simp)
  | succ n ih =>
    intro x1 x2 x3 x4 x5 d6 σ q h hG
    have hk222 : ∀ (x1 : Int32) (x2 : Int32) (x3 : Int32) (x4 : Int32) (x5 : Int32) (d6 : Value) (σ : aSt) (q : Int32 × aSt), H_X12_goes_222 N k113 n x1 x2 x3 x4 x5 σ = some q → Gr σ → Ev xs L 157 222 [.ref 235, .int x1, .int x2, .int x3, .int x4, .int x5, d6] [] σ (wI q.1) q.2 ∧ Gr q.2 := ih
    have h : (if 3 ≤ x5 then H_X12_goes_262 N k113 N x1 x2 x3 x4 0 σ else cO (¬ (x5 < 0 ∨ 3 ≤ x5.toNatClampNeg)) (if (aI σ 278 x5.toNatClampNeg) = ((-1)) then J_X12_goes_253 N k113 (H_X12_goes_222 N k113 n) x1 x2 x3 x4 x5 σ else oB (F_X12_stops N x5 x4 σ) fun y36 σ37 => if y36 = 0 then J_X12_goes_253 N k113 (H_X12_goes_222 N k113 n) x1 x2 x3 x4 x5 σ37 else J_X12_goes_253 N k113 (H_X12_goes_222 N k113 n) x1 x2 (x3 + 1) x4 x5 σ37)) = some q := h
    refine ev_a (fun he => ev_iload rfl rfl he) ?_
    refine ev_a (fun he => ev_push rfl he) ?_
    refine ev_b (c := 3 ≤ x5) (fun ht hf => ev_cge rfl ht hf) (fun hc33 => ?_) (fun hc33 => ?_)
    · rw [if_pos hc33] at h
      refine ev_a (fun he => ev_push rfl he) ?_
      refine ev_a (fun he => ev_istore (ls' := [.ref 235, .int x1, .int x2, .int x3, .int x4, .int 0, d6]) rfl (Nat.le_of_ble_eq_true rfl) rfl he) ?_
      exact TH_X12_goes_262 xs L N k113 hk113 N x1 x2 x3 x4 0 (d6) σ q h hG
    · rw [if_neg hc33] at h
      refine ev_a (fun he => ev_aload rfl rfl he) ?_
      refine ev_a (fun he => ev_getR rfl (gr_ob (n := 80) hG rfl) (gr_p (a := 235) (k := 61) (b := 278) hG rfl) he) ?_
      refine ev_a (fun he => ev_iload rfl rfl he) ?_
      obtain ⟨hc34, h⟩ := cO_inv h
      refine ev_a (fun he => ev_aldI (k := x5.toNatClampNeg) rfl (gr_ar hG rfl) hc34 rfl he) ?_
      refine ev_a (fun he => ev_push rfl he) ?_
      refine ev_b (c := (aI σ 278 x5.toNatClampNeg) = ((-1))) (fun ht hf => ev_ceq rfl ht hf) (fun hc35 => ?_) (fun hc35 => ?_)
      · rw [if_pos hc35] at h
        exact TJ_X12_goes_253 xs L N k113 (H_X12_goes_222 N k113 n) hk113 hk222 x1 x2 x3 x4 x5 (d6) σ q h hG
      · rw [if_neg hc35] at h
        refine ev_a (fun he => ev_aload rfl rfl he) ?_
        refine ev_a (fun he => ev_iload rfl rfl he) ?_
        refine ev_a (fun he => ev_iload rfl rfl he) ?_
        obtain ⟨y36, σ37, h38, h⟩ := oB_inv h
        obtain ⟨c39, hG40⟩ := T_X12_stops xs L N x5 x4 σ (y36, σ37) h38 hG
        refine ev_a (fun he => ev_callV (as := [.int x5, .int x4]) rfl (gr_ob (n := 80) hG rfl) rfl rfl rfl (Nat.le_of_ble_eq_true rfl) (Nat.le_of_ble_eq_true rfl) c39 he) ?_
        refine ev_b (c := y36 = 0) (fun ht hf => ev_ifeq rfl ht hf) (fun hc41 => ?_) (fun hc41 => ?_)
        · rw [if_pos hc41] at h
          exact TJ_X12_goes_253 xs L N k113 (H_X12_goes_222 N k113 n) hk113 hk222 x1 x2 x3 x4 x5 (d6) σ37 q h hG40
        · rw [if_neg hc41] at h
          refine ev_a (fun he => ev_iinc (ls' := [.ref 235, .int x1, .int x2, .int (x3 + 1), .int x4, .int x5, d6]) rfl rfl rfl (Nat.le_of_ble_eq_true rfl) rfl he) ?_
          exact TJ_X12_goes_253 xs L N k113 (H_X12_goes_222 N k113 n) hk113 hk222 x1 x2 (x3 + 1) x4 x5 (d6) σ37 q h hG40
def J_X12_goes_212 (N : Nat) (k113 : Int32 → Int32 → Int32 → Int32 → aSt → Option (Int32 × aSt)) (k188 : Int32 → Int32 → Int32 → Int32 → Int32 → aSt → Option (Int32 × aSt)) (x1 : Int32) (x2 : Int32) (x3 : Int32) (x4 : Int32) (x5 : Int32) (s1 : Int32) (s2 : Int32) (σ : aSt) : Option (Int32 × aSt) := cO (¬ (s1 < 0 ∨ 6 ≤ s1.toNatClampNeg)) (lt (aWI σ 286 s1.toNatClampNeg (vp_nar .boolean s2)) fun σ43 => k188 x1 x2 x3 x4 (x5 + 1) σ43)
set_option maxRecDepth 20000 in
set_option maxHeartbeats 4000000 in
theorem TJ_X12_goes_212 (xs : Nat → Int32) (L : Nat) (N : Nat) (k113 : Int32 → Int32 → Int32 → Int32 → aSt → Option (Int32 × aSt)) (k188 : Int32 → Int32 → Int32 → Int32 → Int32 → aSt → Option (Int32 × aSt)) (hk113 : ∀ (x1 : Int32) (x2 : Int32) (x3 : Int32) (x4 : Int32) (d5 : Value) (d6 : Value) (σ : aSt) (q : Int32 × aSt), k113 x1 x2 x3 x4 σ = some q → Gr σ → Ev xs L 157 113 [.ref 235, .int x1, .int x2, .int x3, .int x4, d5, d6] [] σ (wI q.1) q.2 ∧ Gr q.2) (hk188 : ∀ (x1 : Int32) (x2 : Int32) (x3 : Int32) (x4 : Int32) (x5 : Int32) (d6 : Value) (σ : aSt) (q : Int32 × aSt), k188 x1 x2 x3 x4 x5 σ = some q → Gr σ → Ev xs L 157 188 [.ref 235, .int x1, .int x2, .int x3, .int x4, .int x5, d6] [] σ (wI q.1) q.2 ∧ Gr q.2) (x1 : Int32) (x2 : Int32) (x3 : Int32) (x4 : Int32) (x5 : Int32) (s1 : Int32) (s2 : Int32) (d6 : Value) (σ : aSt) (q : Int32 × aSt) (h : J_X12_goes_212 N k113 k188 x1 x2 x3 x4 x5 s1 s2 σ = some q) (hG : Gr σ) : Ev xs L 157 212 [.ref 235, .int x1, .int x2, .int x3, .int x4, .int x5, d6] [.int s2, .int s1, .ref 286] σ (wI q.1) q.2 ∧ Gr q.2 := by
  have h : (cO (¬ (s1 < 0 ∨ 6 ≤ s1.toNatClampNeg)) (lt (aWI σ 286 s1.toNatClampNeg (vp_nar .boolean s2)) fun σ43 => k188 x1 x2 x3 x4 (x5 + 1) σ43)) = some q := h
  obtain ⟨hc42, h⟩ := cO_inv h
  obtain ⟨σ43, e44, h⟩ := lt_inv h
  have hG45 : Gr σ43 := gr_wi e44 hG
  refine ev_a (fun he => ev_astI (k := s1.toNatClampNeg) rfl (gr_ar hG rfl) hc42 rfl rfl e44 he) ?_
  refine ev_a (fun he => ev_iinc (ls' := [.ref 235, .int x1, .int x2, .int x3, .int x4, .int (x5 + 1), d6]) rfl rfl rfl (Nat.le_of_ble_eq_true rfl) rfl he) ?_
  refine ev_a (fun he => ev_goto rfl he) ?_
  exact hk188 x1 x2 x3 x4 (x5 + 1) (d6) σ43 q h hG45
def H_X12_goes_188 (N : Nat) (k113 : Int32 → Int32 → Int32 → Int32 → aSt → Option (Int32 × aSt)) : Nat → Int32 → Int32 → Int32 → Int32 → Int32 → aSt → Option (Int32 × aSt)
  | 0, _, _, _, _, _, _ => none
  | n + 1, x1, x2, x3, x4, x5, σ => if 6 ≤ x5 then H_X12_goes_222 N k113 N x1 x2 x3 x4 0 σ else if x5 ≠ x1 then J_X12_goes_212 N k113 (H_X12_goes_188 N k113 n) x1 x2 x3 x4 x5 x5 0 σ else J_X12_goes_212 N k113 (H_X12_goes_188 N k113 n) x1 x2 x3 x4 x5 x5 1 σ
set_option maxRecDepth 20000 in
set_option maxHeartbeats 4000000 in
theorem TH_X12_goes_188 (xs : Nat → Int32) (L : Nat) (N : Nat) (k113 : Int32 → Int32 → Int32 → Int32 → aSt → Option (Int32 × aSt)) (hk113 : ∀ (x1 : Int32) (x2 : Int32) (x3 : Int32) (x4 : Int32) (d5 : Value) (d6 : Value) (σ : aSt) (q : Int32 × aSt), k113 x1 x2 x3 x4 σ = some q → Gr σ → Ev xs L 157 113 [.ref 235, .int x1, .int x2, .int x3, .int x4, d5, d6] [] σ (wI q.1) q.2 ∧ Gr q.2) : ∀ (n : Nat) (x1 : Int32) (x2 : Int32) (x3 : Int32) (x4 : Int32) (x5 : Int32) (d6 : Value) (σ : aSt) (q : Int32 × aSt), H_X12_goes_188 N k113 n x1 x2 x3 x4 x5 σ = some q → Gr σ → Ev xs L 157 188 [.ref 235, .int x1, .int x2, .int x3, .int x4, .int x5, d6] [] σ (wI q.1) q.2 ∧ Gr q.2 := by
  intro n
  induction n with
  | zero =>
    intro x1 x2 x3 x4 x5 d6 σ q h hG
    exact absurd (show (none : Option (Int32 × aSt)) = some q from h) (by simp)
  | succ n ih =>
    intro x1 x2 x3 x4 x5 d6 σ q h hG
    have hk188 : ∀ (x1 : Int32) (x2 : Int32) (x3 : Int32) (x4 : Int32) (x5 : Int32) (d6 : Value) (σ : aSt) (q : Int32 × aSt), H_X12_goes_188 N k113 n x1 x2 x3 x4 x5 σ = some q → Gr σ → Ev xs L 157 188 [.ref 235, .int x1, .int x2, .int x3, .int x4, .int x5, d6] [] σ (wI q.1) q.2 ∧ Gr q.2 := ih
    have h : (if 6 ≤ x5 then H_X12_goes_222 N k113 N x1 x2 x3 x4 0 σ else if x5 ≠ x1 then J_X12_goes_212 N k113 (H_X12_goes_188 N k113 n) x1 x2 x3 x4 x5 x5 0 σ else J_X12_goes_212 N k113 (H_X12_goes_188 N k113 n) x1 x2 x3 x4 x5 x5 1 σ) = some q := h
    refine ev_a (fun he => ev_iload rfl rfl he) ?_
    refine ev_a (fun he => ev_push rfl he) ?_
    refine ev_b (c := 6 ≤ x5) (fun ht hf => ev_cge rfl ht hf) (fun hc46 => ?_) (fun hc46 => ?_)
    · rw [if_pos hc46] at h
      refine ev_a (fun he => ev_push rfl he) ?_
      refine ev_a (fun he => ev_istore (ls' := [.ref 235, .int x1, .int x2, .int x3, .int x4, .int 0, d6]) rfl (Nat.le_of_ble_eq_true rfl) rfl he) ?_
      exact TH_X12_goes_222 xs L N k113 hk113 N x1 x2 x3 x4 0 (d6) σ q h hG
    · rw [if_neg hc46] at h
      refine ev_a (fun he => ev_aload rfl rfl he) ?_
      refine ev_a (fun he => ev_getR rfl (gr_ob (n := 80) hG rfl) (gr_p (a := 235) (k := 69) (b := 286) hG rfl) he) ?_
      refine ev_a (fun he => ev_iload rfl rfl he) ?_
      refine ev_a (fun he => ev_iload rfl rfl he) ?_
      refine ev_a (fun he => ev_iload rfl rfl he) ?_
      refine ev_b (c := x5 ≠ x1) (fun ht hf => ev_cne rfl ht hf) (fun hc47 => ?_) (fun hc47 => ?_)
      · rw [if_pos hc47] at h
        refine ev_a (fun he => ev_push rfl he) ?_
        exact TJ_X12_goes_212 xs L N k113 (H_X12_goes_188 N k113 n) hk113 hk188 x1 x2 x3 x4 x5 x5 0 (d6) σ q h hG
      · rw [if_neg hc47] at h
        refine ev_a (fun he => ev_push rfl he) ?_
        refine ev_a (fun he => ev_goto rfl he) ?_
        exact TJ_X12_goes_212 xs L N k113 (H_X12_goes_188 N k113 n) hk113 hk188 x1 x2 x3 x4 x5 x5 1 (d6) σ q h hG
def J_X12_goes_179 (N : Nat) (k113 : Int32 → Int32 → Int32 → Int32 → aSt → Option (Int32 × aSt)) (k127 : Int32 → Int32 → Int32 → Int32 → Int32 → aSt → Option (Int32 × aSt)) (x1 : Int32) (x2 : Int32) (x3 : Int32) (x4 : Int32) (x5 : Int32) (σ : aSt) : Option (Int32 × aSt) := k127 x1 x2 x3 x4 (x5 + 1) σ
set_option maxRecDepth 20000 in
set_option maxHeartbeats 4000000 in
theorem TJ_X12_goes_179 (xs : Nat → Int32) (L : Nat) (N : Nat) (k113 : Int32 → Int32 → Int32 → Int32 → aSt → Option (Int32 × aSt)) (k127 : Int32 → Int32 → Int32 → Int32 → Int32 → aSt → Option (Int32 × aSt)) (hk113 : ∀ (x1 : Int32) (x2 : Int32) (x3 : Int32) (x4 : Int32) (d5 : Value) (d6 : Value) (σ : aSt) (q : Int32 × aSt), k113 x1 x2 x3 x4 σ = some q → Gr σ → Ev xs L 157 113 [.ref 235, .int x1, .int x2, .int x3, .int x4, d5, d6] [] σ (wI q.1) q.2 ∧ Gr q.2) (hk127 : ∀ (x1 : Int32) (x2 : Int32) (x3 : Int32) (x4 : Int32) (x5 : Int32) (d6 : Value) (σ : aSt) (q : Int32 × aSt), k127 x1 x2 x3 x4 x5 σ = some q → Gr σ → Ev xs L 157 127 [.ref 235, .int x1, .int x2, .int x3, .int x4, .int x5, d6] [] σ (wI q.1) q.2 ∧ Gr q.2) (x1 : Int32) (x2 : Int32) (x3 : Int32) (x4 : Int32) (x5 : Int32) (d6 : Value) (σ : aSt) (q : Int32 × aSt) (h : J_X12_goes_179 N k113 k127 x1 x2 x3 x4 x5 σ = some q) (hG : Gr σ) : Ev xs L 157 179 [.ref 235, .int x1, .int x2, .int x3, .int x4, .int x5, d6] [] σ (wI q.1) q.2 ∧ Gr q.2 := by
  have h : (k127 x1 x2 x3 x4 (x5 + 1) σ) = some q := h
  refine ev_a (fun he => ev_iinc (ls' := [.ref 235, .int x1, .int x2, .int x3, .int x4, .int (x5 + 1), d6]) rfl rfl rfl (Nat.le_of_ble_eq_true rfl) rfl he) ?_
  refine ev_a (fun he => ev_goto rfl he) ?_
  exact hk127 x1 x2 x3 x4 (x5 + 1) (d6) σ q h hG
def H_X12_goes_127 (N : Nat) (k113 : Int32 → Int32 → Int32 → Int32 → aSt → Option (Int32 × aSt)) : Nat → Int32 → Int32 → Int32 → Int32 → Int32 → aSt → Option (Int32 × aSt)
  | 0, _, _, _, _, _, _ => none
  | n + 1, x1, x2, x3, x4, x5, σ => if 3 ≤ x5 then H_X12_goes_188 N k113 N x1 x2 x3 x4 0 σ else cO (¬ (x5 < 0 ∨ 3 ≤ x5.toNatClampNeg)) (if (aI σ 278 x5.toNatClampNeg) ≠ ((-1)) then J_X12_goes_179 N k113 (H_X12_goes_127 N k113 n) x1 x2 x3 x4 x5 σ else if x2 ≠ (aI σ 235 37) then cO (¬ (x5 < 0 ∨ 3 ≤ x5.toNatClampNeg)) (lt (aWI σ 278 x5.toNatClampNeg x2) fun σ53 => cO (¬ (x2 < 0 ∨ 24 ≤ x2.toNatClampNeg)) (cO (¬ (x5 < 0 ∨ 3 ≤ x5.toNatClampNeg)) (lt (aWI σ53 279 x5.toNatClampNeg (aI σ53 284 x2.toNatClampNeg)) fun σ58 => J_X12_goes_179 N k113 (H_X12_goes_127 N k113 n) x1 (x2 + 1) x3 x4 x5 σ58))) else J_X12_goes_179 N k113 (H_X12_goes_127 N k113 n) x1 x2 x3 x4 x5 σ)
set_option maxRecDepth 20000 in
set_option maxHeartbeats 4000000 in
theorem TH_X12_goes_127 (xs : Nat → Int32) (L : Nat) (N : Nat) (k113 : Int32 → Int32 → Int32 → Int32 → aSt → Option (Int32 × aSt)) (hk113 : ∀ (x1 : Int32) (x2 : Int32) (x3 : Int32) (x4 : Int32) (d5 : Value) (d6 : Value) (σ : aSt) (q : Int32 × aSt), k113 x1 x2 x3 x4 σ = some q → Gr σ → Ev xs L 157 113 [.ref 235, .int x1, .int x2, .int x3, .int x4, d5, d6] [] σ (wI q.1) q.2 ∧ Gr q.2) : ∀ (n : Nat) (x1 : Int32) (x2 : Int32) (x3 : Int32) (x4 : Int32) (x5 : Int32) (d6 : Value) (σ : aSt) (q : Int32 × aSt), H_X12_goes_127 N k113 n x1 x2 x3 x4 x5 σ = some q → Gr σ → Ev xs L 157 127 [.ref 235, .int x1, .int x2, .int x3, .int x4, .int x5, d6] [] σ (wI q.1) q.2 ∧ Gr q.2 := by
  intro n
  induction n with
  | zero =>
    intro x1 x2 x3 x4 x5 d6 σ q h hG
    exact absurd (show (none : Option (Int32 × aSt)) = some q from h) (by simp)
  | succ n ih =>
    intro x1 x2 x3 x4 x5 d6 σ q h hG
    have hk127 : ∀ (x1 : Int32) (x2 : Int32) (x3 : Int32) (x4 : Int32) (x5 : Int32) (d6 : Value) (σ : aSt) (q : Int32 × aSt), H_X12_goes_127 N k113 n x1 x2 x3 x4 x5 σ = some q → Gr σ → Ev xs L 157 127 [.ref 235, .int x1, .int x2, .int x3, .int x4, .int x5, d6] [] σ (wI q.1) q.2 ∧ Gr q.2 := ih
    have h : (if 3 ≤ x5 then H_X12_goes_188 N k113 N x1 x2 x3 x4 0 σ else cO (¬ (x5 < 0 ∨ 3 ≤ x5.toNatClampNeg)) (if (aI σ 278 x5.toNatClampNeg) ≠ ((-1)) then J_X12_goes_179 N k113 (H_X12_goes_127 N k113 n) x1 x2 x3 x4 x5 σ else if x2 ≠ (aI σ 235 37) then cO (¬ (x5 < 0 ∨ 3 ≤ x5.toNatClampNeg)) (lt (aWI σ 278 x5.toNatClampNeg x2) fun σ53 => cO (¬ (x2 < 0 ∨ 24 ≤ x2.toNatClampNeg)) (cO (¬ (x5 < 0 ∨ 3 ≤ x5.toNatClampNeg)) (lt (aWI σ53 279 x5.toNatClampNeg (aI σ53 284 x2.toNatClampNeg)) fun σ58 => J_X12_goes_179 N k113 (H_X12_goes_127 N k113 n) x1 (x2 + 1) x3 x4 x5 σ58))) else J_X12_goes_179 N k113 (H_X12_goes_127 N k113 n) x1 x2 x3 x4 x5 σ)) = some q := h
    refine ev_a (fun he => ev_iload rfl rfl he) ?_
    refine ev_a (fun he => ev_push rfl he) ?_
    refine ev_b (c := 3 ≤ x5) (fun ht hf => ev_cge rfl ht hf) (fun hc48 => ?_) (fun hc48 => ?_)
    · rw [if_pos hc48] at h
      refine ev_a (fun he => ev_push rfl he) ?_
      refine ev_a (fun he => ev_istore (ls' := [.ref 235, .int x1, .int x2, .int x3, .int x4, .int 0, d6]) rfl (Nat.le_of_ble_eq_true rfl) rfl he) ?_
      exact TH_X12_goes_188 xs L N k113 hk113 N x1 x2 x3 x4 0 (d6) σ q h hG
    · rw [if_neg hc48] at h
      refine ev_a (fun he => ev_aload rfl rfl he) ?_
      refine ev_a (fun he => ev_getR rfl (gr_ob (n := 80) hG rfl) (gr_p (a := 235) (k := 61) (b := 278) hG rfl) he) ?_
      refine ev_a (fun he => ev_iload rfl rfl he) ?_
      obtain ⟨hc49, h⟩ := cO_inv h
      refine ev_a (fun he => ev_aldI (k := x5.toNatClampNeg) rfl (gr_ar hG rfl) hc49 rfl he) ?_
      refine ev_a (fun he => ev_push rfl he) ?_
      refine ev_b (c := (aI σ 278 x5.toNatClampNeg) ≠ ((-1))) (fun ht hf => ev_cne rfl ht hf) (fun hc50 => ?_) (fun hc50 => ?_)
      · rw [if_pos hc50] at h
        exact TJ_X12_goes_179 xs L N k113 (H_X12_goes_127 N k113 n) hk113 hk127 x1 x2 x3 x4 x5 (d6) σ q h hG
      · rw [if_neg hc50] at h
        refine ev_a (fun he => ev_iload rfl rfl he) ?_
        refine ev_a (fun he => ev_aload rfl rfl he) ?_
        refine ev_a (fun he => ev_getI rfl (gr_ob (n := 80) hG rfl) he) ?_
        refine ev_b (c := x2 ≠ (aI σ 235 37)) (fun ht hf => ev_cne rfl ht hf) (fun hc51 => ?_) (fun hc51 => ?_)
        · rw [if_pos hc51] at h
          refine ev_a (fun he => ev_aload rfl rfl he) ?_
          refine ev_a (fun he => ev_getR rfl (gr_ob (n := 80) hG rfl) (gr_p (a := 235) (k := 61) (b := 278) hG rfl) he) ?_
          refine ev_a (fun he => ev_iload rfl rfl he) ?_
          refine ev_a (fun he => ev_iload rfl rfl he) ?_
          obtain ⟨hc52, h⟩ := cO_inv h
          obtain ⟨σ53, e54, h⟩ := lt_inv h
          have hG55 : Gr σ53 := gr_wi e54 hG
          refine ev_a (fun he => ev_astI (k := x5.toNatClampNeg) rfl (gr_ar hG rfl) hc52 rfl rfl e54 he) ?_
          refine ev_a (fun he => ev_aload rfl rfl he) ?_
          refine ev_a (fun he => ev_getR rfl (gr_ob (n := 80) hG55 rfl) (gr_p (a := 235) (k := 62) (b := 279) hG55 rfl) he) ?_
          refine ev_a (fun he => ev_iload rfl rfl he) ?_
          refine ev_a (fun he => ev_aload rfl rfl he) ?_
          refine ev_a (fun he => ev_getR rfl (gr_ob (n := 80) hG55 rfl) (gr_p (a := 235) (k := 67) (b := 284) hG55 rfl) he) ?_
          refine ev_a (fun he => ev_iload rfl rfl he) ?_
          obtain ⟨hc56, h⟩ := cO_inv h
          refine ev_a (fun he => ev_aldI (k := x2.toNatClampNeg) rfl (gr_ar hG55 rfl) hc56 rfl he) ?_
          obtain ⟨hc57, h⟩ := cO_inv h
          obtain ⟨σ58, e59, h⟩ := lt_inv h
          have hG60 : Gr σ58 := gr_wi e59 hG55
          refine ev_a (fun he => ev_astI (k := x5.toNatClampNeg) rfl (gr_ar hG55 rfl) hc57 rfl rfl e59 he) ?_
          refine ev_a (fun he => ev_iinc (ls' := [.ref 235, .int x1, .int (x2 + 1), .int x3, .int x4, .int x5, d6]) rfl rfl rfl (Nat.le_of_ble_eq_true rfl) rfl he) ?_
          exact TJ_X12_goes_179 xs L N k113 (H_X12_goes_127 N k113 n) hk113 hk127 x1 (x2 + 1) x3 x4 x5 (d6) σ58 q h hG60
        · rw [if_neg hc51] at h
          refine ev_a (fun he => ev_goto rfl he) ?_
          exact TJ_X12_goes_179 xs L N k113 (H_X12_goes_127 N k113 n) hk113 hk127 x1 x2 x3 x4 x5 (d6) σ q h hG
def H_X12_goes_113 (N : Nat) : Nat → Int32 → Int32 → Int32 → Int32 → aSt → Option (Int32 × aSt)
  | 0, _, _, _, _, _ => none
  | n + 1, x1, x2, x3, x4, σ => if (aI σ 235 37) ≤ x3 then some (x4, σ) else H_X12_goes_127 N (H_X12_goes_113 N n) N x1 x2 x3 (x4 + 1) 0 σ
set_option maxRecDepth 20000 in
set_option maxHeartbeats 4000000 in
theorem TH_X12_goes_113 (xs : Nat → Int32) (L : Nat) (N : Nat) : ∀ (n : Nat) (x1 : Int32) (x2 : Int32) (x3 : Int32) (x4 : Int32) (d5 : Value) (d6 : Value) (σ : aSt) (q : Int32 × aSt), H_X12_goes_113 N n x1 x2 x3 x4 σ = some q → Gr σ → Ev xs L 157 113 [.ref 235, .int x1, .int x2, .int x3, .int x4, d5, d6] [] σ (wI q.1) q.2 ∧ Gr q.2 := by
  intro n
  induction n with
  | zero =>
    intro x1 x2 x3 x4 d5 d6 σ q h hG
    exact absurd (show (none : Option (Int32 × aSt)) = some q from h) (by simp)
  | succ n ih =>
    intro x1 x2 x3 x4 d5 d6 σ q h hG
    have hk113 : ∀ (x1 : Int32) (x2 : Int32) (x3 : Int32) (x4 : Int32) (d5 : Value) (d6 : Value) (σ : aSt) (q : Int32 × aSt), H_X12_goes_113 N n x1 x2 x3 x4 σ = some q → Gr σ → Ev xs L 157 113 [.ref 235, .int x1, .int x2, .int x3, .int x4, d5, d6] [] σ (wI q.1) q.2 ∧ Gr q.2 := ih
    have h : (if (aI σ 235 37) ≤ x3 then some (x4, σ) else H_X12_goes_127 N (H_X12_goes_113 N n) N x1 x2 x3 (x4 + 1) 0 σ) = some q := h
    refine ev_a (fun he => ev_iload rfl rfl he) ?_
    refine ev_a (fun he => ev_aload rfl rfl he) ?_
    refine ev_a (fun he => ev_getI rfl (gr_ob (n := 80) hG rfl) he) ?_
    refine ev_b (c := (aI σ 235 37) ≤ x3) (fun ht hf => ev_cge rfl ht hf) (fun hc61 => ?_) (fun hc61 => ?_)
    · rw [if_pos hc61] at h
      refine ev_a (fun he => ev_iload rfl rfl he) ?_
      cases h
      exact ⟨ev_retI rfl, hG⟩
    · rw [if_neg hc61] at h
      refine ev_a (fun he => ev_iinc (ls' := [.ref 235, .int x1, .int x2, .int x3, .int (x4 + 1), d5, d6]) rfl rfl rfl (Nat.le_of_ble_eq_true rfl) rfl he) ?_
      refine ev_a (fun he => ev_push rfl he) ?_
      refine ev_a (fun he => ev_istore (ls' := [.ref 235, .int x1, .int x2, .int x3, .int (x4 + 1), .int 0, d6]) rfl (Nat.le_of_ble_eq_true rfl) rfl he) ?_
      exact TH_X12_goes_127 xs L N (H_X12_goes_113 N n) hk113 N x1 x2 x3 (x4 + 1) 0 (d6) σ q h hG
def H_X12_goes_64 (N : Nat) : Nat → Int32 → Int32 → aSt → Option (Int32 × aSt)
  | 0, _, _, _ => none
  | n + 1, x1, x2, σ => if (aI σ 235 37) ≤ x2 then H_X12_goes_113 N N x1 0 0 ((-1)) σ else oB (F_X12_startOf N x2 σ) fun y63 σ64 => cO (¬ (x2 < 0 ∨ 24 ≤ x2.toNatClampNeg)) (lt (aWI σ64 284 x2.toNatClampNeg y63) fun σ69 => cO (¬ (x2 < 0 ∨ 24 ≤ x2.toNatClampNeg)) (oB (F_X12_leastOf N x2 (aI σ69 284 x2.toNatClampNeg) σ69) fun y73 σ74 => cO (¬ (x2 < 0 ∨ 24 ≤ x2.toNatClampNeg)) (lt (aWI σ74 285 x2.toNatClampNeg y73) fun σ79 => (H_X12_goes_64 N n) x1 (x2 + 1) σ79)))
set_option maxRecDepth 20000 in
set_option maxHeartbeats 4000000 in
theorem TH_X12_goes_64 (xs : Nat → Int32) (L : Nat) (N : Nat) : ∀ (n : Nat) (x1 : Int32) (x2 : Int32) (d3 : Value) (d4 : Value) (d5 : Value) (d6 : Value) (σ : aSt) (q : Int32 × aSt), H_X12_goes_64 N n x1 x2 σ = some q → Gr σ → Ev xs L 157 64 [.ref 235, .int x1, .int x2, d3, d4, d5, d6] [] σ (wI q.1) q.2 ∧ Gr q.2 := by
  intro n
  induction n with
  | zero =>
    intro x1 x2 d3 d4 d5 d6 σ q h hG
    exact absurd (show (none : Option (Int32 × aSt)) = some q from h) (by simp)
  | succ n ih =>
    intro x1 x2 d3 d4 d5 d6 σ q h hG
    have hk64 : ∀ (x1 : Int32) (x2 : Int32) (d3 : Value) (d4 : Value) (d5 : Value) (d6 : Value) (σ : aSt) (q : Int32 × aSt), H_X12_goes_64 N n x1 x2 σ = some q → Gr σ → Ev xs L 157 64 [.ref 235, .int x1, .int x2, d3, d4, d5, d6] [] σ (wI q.1) q.2 ∧ Gr q.2 := ih
    have h : (if (aI σ 235 37) ≤ x2 then H_X12_goes_113 N N x1 0 0 ((-1)) σ else oB (F_X12_startOf N x2 σ) fun y63 σ64 => cO (¬ (x2 < 0 ∨ 24 ≤ x2.toNatClampNeg)) (lt (aWI σ64 284 x2.toNatClampNeg y63) fun σ69 => cO (¬ (x2 < 0 ∨ 24 ≤ x2.toNatClampNeg)) (oB (F_X12_leastOf N x2 (aI σ69 284 x2.toNatClampNeg) σ69) fun y73 σ74 => cO (¬ (x2 < 0 ∨ 24 ≤ x2.toNatClampNeg)) (lt (aWI σ74 285 x2.toNatClampNeg y73) fun σ79 => (H_X12_goes_64 N n) x1 (x2 + 1) σ79)))) = some q := h
    refine ev_a (fun he => ev_iload rfl rfl he) ?_
    refine ev_a (fun he => ev_aload rfl rfl he) ?_
    refine ev_a (fun he => ev_getI rfl (gr_ob (n := 80) hG rfl) he) ?_
    refine ev_b (c := (aI σ 235 37) ≤ x2) (fun ht hf => ev_cge rfl ht hf) (fun hc62 => ?_) (fun hc62 => ?_)
    · rw [if_pos hc62] at h
      refine ev_a (fun he => ev_push rfl he) ?_
      refine ev_a (fun he => ev_istore (ls' := [.ref 235, .int x1, .int 0, d3, d4, d5, d6]) rfl (Nat.le_of_ble_eq_true rfl) rfl he) ?_
      refine ev_a (fun he => ev_push rfl he) ?_
      refine ev_a (fun he => ev_istore (ls' := [.ref 235, .int x1, .int 0, .int 0, d4, d5, d6]) rfl (Nat.le_of_ble_eq_true rfl) rfl he) ?_
      refine ev_a (fun he => ev_push rfl he) ?_
      refine ev_a (fun he => ev_istore (ls' := [.ref 235, .int x1, .int 0, .int 0, .int ((-1)), d5, d6]) rfl (Nat.le_of_ble_eq_true rfl) rfl he) ?_
      exact TH_X12_goes_113 xs L N N x1 0 0 ((-1)) (d5) (d6) σ q h hG
    · rw [if_neg hc62] at h
      refine ev_a (fun he => ev_aload rfl rfl he) ?_
      refine ev_a (fun he => ev_getR rfl (gr_ob (n := 80) hG rfl) (gr_p (a := 235) (k := 67) (b := 284) hG rfl) he) ?_
      refine ev_a (fun he => ev_iload rfl rfl he) ?_
      refine ev_a (fun he => ev_aload rfl rfl he) ?_
      refine ev_a (fun he => ev_iload rfl rfl he) ?_
      obtain ⟨y63, σ64, h65, h⟩ := oB_inv h
      obtain ⟨c66, hG67⟩ := T_X12_startOf xs L N x2 σ (y63, σ64) h65 hG
      refine ev_a (fun he => ev_callV (as := [.int x2]) rfl (gr_ob (n := 80) hG rfl) rfl rfl rfl (Nat.le_of_ble_eq_true rfl) (Nat.le_of_ble_eq_true rfl) c66 he) ?_
      obtain ⟨hc68, h⟩ := cO_inv h
      obtain ⟨σ69, e70, h⟩ := lt_inv h
      have hG71 : Gr σ69 := gr_wi e70 hG67
      refine ev_a (fun he => ev_astI (k := x2.toNatClampNeg) rfl (gr_ar hG67 rfl) hc68 rfl rfl e70 he) ?_
      refine ev_a (fun he => ev_aload rfl rfl he) ?_
      refine ev_a (fun he => ev_getR rfl (gr_ob (n := 80) hG71 rfl) (gr_p (a := 235) (k := 68) (b := 285) hG71 rfl) he) ?_
      refine ev_a (fun he => ev_iload rfl rfl he) ?_
      refine ev_a (fun he => ev_aload rfl rfl he) ?_
      refine ev_a (fun he => ev_iload rfl rfl he) ?_
      refine ev_a (fun he => ev_aload rfl rfl he) ?_
      refine ev_a (fun he => ev_getR rfl (gr_ob (n := 80) hG71 rfl) (gr_p (a := 235) (k := 67) (b := 284) hG71 rfl) he) ?_
      refine ev_a (fun he => ev_iload rfl rfl he) ?_
      obtain ⟨hc72, h⟩ := cO_inv h
      refine ev_a (fun he => ev_aldI (k := x2.toNatClampNeg) rfl (gr_ar hG71 rfl) hc72 rfl he) ?_
      obtain ⟨y73, σ74, h75, h⟩ := oB_inv h
      obtain ⟨c76, hG77⟩ := T_X12_leastOf xs L N x2 (aI σ69 284 x2.toNatClampNeg) σ69 (y73, σ74) h75 hG71
      refine ev_a (fun he => ev_callV (as := [.int x2, .int (aI σ69 284 x2.toNatClampNeg)]) rfl (gr_ob (n := 80) hG71 rfl) rfl rfl rfl (Nat.le_of_ble_eq_true rfl) (Nat.le_of_ble_eq_true rfl) c76 he) ?_
      obtain ⟨hc78, h⟩ := cO_inv h
      obtain ⟨σ79, e80, h⟩ := lt_inv h
      have hG81 : Gr σ79 := gr_wi e80 hG77
      refine ev_a (fun he => ev_astI (k := x2.toNatClampNeg) rfl (gr_ar hG77 rfl) hc78 rfl rfl e80 he) ?_
      refine ev_a (fun he => ev_iinc (ls' := [.ref 235, .int x1, .int (x2 + 1), d3, d4, d5, d6]) rfl rfl rfl (Nat.le_of_ble_eq_true rfl) rfl he) ?_
      refine ev_a (fun he => ev_goto rfl he) ?_
      exact hk64 x1 (x2 + 1) (d3) (d4) (d5) (d6) σ79 q h hG81
def H_X12_goes_44 (N : Nat) : Nat → Int32 → Int32 → aSt → Option (Int32 × aSt)
  | 0, _, _, _ => none
  | n + 1, x1, x2, σ => if 3 ≤ x2 then H_X12_goes_64 N N x1 0 σ else cO (¬ (x2 < 0 ∨ 3 ≤ x2.toNatClampNeg)) (lt (aWI σ 278 x2.toNatClampNeg ((-1))) fun σ84 => (H_X12_goes_44 N n) x1 (x2 + 1) σ84)
set_option maxRecDepth 20000 in
set_option maxHeartbeats 4000000 in
theorem TH_X12_goes_44 (xs : Nat → Int32) (L : Nat) (N : Nat) : ∀ (n : Nat) (x1 : Int32) (x2 : Int32) (d3 : Value) (d4 : Value) (d5 : Value) (d6 : Value) (σ : aSt) (q : Int32 × aSt), H_X12_goes_44 N n x1 x2 σ = some q → Gr σ → Ev xs L 157 44 [.ref 235, .int x1, .int x2, d3, d4, d5, d6] [] σ (wI q.1) q.2 ∧ Gr q.2 := by
  intro n
  induction n with
  | zero =>
    intro x1 x2 d3 d4 d5 d6 σ q h hG
    exact absurd (show (none : Option (Int32 × aSt)) = some q from h) (by simp)
  | succ n ih =>
    intro x1 x2 d3 d4 d5 d6 σ q h hG
    have hk44 : ∀ (x1 : Int32) (x2 : Int32) (d3 : Value) (d4 : Value) (d5 : Value) (d6 : Value) (σ : aSt) (q : Int32 × aSt), H_X12_goes_44 N n x1 x2 σ = some q → Gr σ → Ev xs L 157 44 [.ref 235, .int x1, .int x2, d3, d4, d5, d6] [] σ (wI q.1) q.2 ∧ Gr q.2 := ih
    have h : (if 3 ≤ x2 then H_X12_goes_64 N N x1 0 σ else cO (¬ (x2 < 0 ∨ 3 ≤ x2.toNatClampNeg)) (lt (aWI σ 278 x2.toNatClampNeg ((-1))) fun σ84 => (H_X12_goes_44 N n) x1 (x2 + 1) σ84)) = some q := h
    refine ev_a (fun he => ev_iload rfl rfl he) ?_
    refine ev_a (fun he => ev_push rfl he) ?_
    refine ev_b (c := 3 ≤ x2) (fun ht hf => ev_cge rfl ht hf) (fun hc82 => ?_) (fun hc82 => ?_)
    · rw [if_pos hc82] at h
      refine ev_a (fun he => ev_push rfl he) ?_
      refine ev_a (fun he => ev_istore (ls' := [.ref 235, .int x1, .int 0, d3, d4, d5, d6]) rfl (Nat.le_of_ble_eq_true rfl) rfl he) ?_
      exact TH_X12_goes_64 xs L N N x1 0 (d3) (d4) (d5) (d6) σ q h hG
    · rw [if_neg hc82] at h
      refine ev_a (fun he => ev_aload rfl rfl he) ?_
      refine ev_a (fun he => ev_getR rfl (gr_ob (n := 80) hG rfl) (gr_p (a := 235) (k := 61) (b := 278) hG rfl) he) ?_
      refine ev_a (fun he => ev_iload rfl rfl he) ?_
      refine ev_a (fun he => ev_push rfl he) ?_
      obtain ⟨hc83, h⟩ := cO_inv h
      obtain ⟨σ84, e85, h⟩ := lt_inv h
      have hG86 : Gr σ84 := gr_wi e85 hG
      refine ev_a (fun he => ev_astI (k := x2.toNatClampNeg) rfl (gr_ar hG rfl) hc83 rfl rfl e85 he) ?_
      refine ev_a (fun he => ev_iinc (ls' := [.ref 235, .int x1, .int (x2 + 1), d3, d4, d5, d6]) rfl rfl rfl (Nat.le_of_ble_eq_true rfl) rfl he) ?_
      refine ev_a (fun he => ev_goto rfl he) ?_
      exact hk44 x1 (x2 + 1) (d3) (d4) (d5) (d6) σ84 q h hG86
def H_X12_goes_23 (N : Nat) : Nat → Int32 → Int32 → aSt → Option (Int32 × aSt)
  | 0, _, _, _ => none
  | n + 1, x1, x2, σ => if 6 ≤ x2 then H_X12_goes_44 N N x1 0 σ else cO (¬ (x2 < 0 ∨ 6 ≤ x2.toNatClampNeg)) (lt (aWI σ 277 x2.toNatClampNeg 0) fun σ89 => (H_X12_goes_23 N n) x1 (x2 + 1) σ89)
set_option maxRecDepth 20000 in
set_option maxHeartbeats 4000000 in
theorem TH_X12_goes_23 (xs : Nat → Int32) (L : Nat) (N : Nat) : ∀ (n : Nat) (x1 : Int32) (x2 : Int32) (d3 : Value) (d4 : Value) (d5 : Value) (d6 : Value) (σ : aSt) (q : Int32 × aSt), H_X12_goes_23 N n x1 x2 σ = some q → Gr σ → Ev xs L 157 23 [.ref 235, .int x1, .int x2, d3, d4, d5, d6] [] σ (wI q.1) q.2 ∧ Gr q.2 := by
  intro n
  induction n with
  | zero =>
    intro x1 x2 d3 d4 d5 d6 σ q h hG
    exact absurd (show (none : Option (Int32 × aSt)) = some q from h) (by simp)
  | succ n ih =>
    intro x1 x2 d3 d4 d5 d6 σ q h hG
    have hk23 : ∀ (x1 : Int32) (x2 : Int32) (d3 : Value) (d4 : Value) (d5 : Value) (d6 : Value) (σ : aSt) (q : Int32 × aSt), H_X12_goes_23 N n x1 x2 σ = some q → Gr σ → Ev xs L 157 23 [.ref 235, .int x1, .int x2, d3, d4, d5, d6] [] σ (wI q.1) q.2 ∧ Gr q.2 := ih
    have h : (if 6 ≤ x2 then H_X12_goes_44 N N x1 0 σ else cO (¬ (x2 < 0 ∨ 6 ≤ x2.toNatClampNeg)) (lt (aWI σ 277 x2.toNatClampNeg 0) fun σ89 => (H_X12_goes_23 N n) x1 (x2 + 1) σ89)) = some q := h
    refine ev_a (fun he => ev_iload rfl rfl he) ?_
    refine ev_a (fun he => ev_push rfl he) ?_
    refine ev_b (c := 6 ≤ x2) (fun ht hf => ev_cge rfl ht hf) (fun hc87 => ?_) (fun hc87 => ?_)
    · rw [if_pos hc87] at h
      refine ev_a (fun he => ev_push rfl he) ?_
      refine ev_a (fun he => ev_istore (ls' := [.ref 235, .int x1, .int 0, d3, d4, d5, d6]) rfl (Nat.le_of_ble_eq_true rfl) rfl he) ?_
      exact TH_X12_goes_44 xs L N N x1 0 (d3) (d4) (d5) (d6) σ q h hG
    · rw [if_neg hc87] at h
      refine ev_a (fun he => ev_aload rfl rfl he) ?_
      refine ev_a (fun he => ev_getR rfl (gr_ob (n := 80) hG rfl) (gr_p (a := 235) (k := 60) (b := 277) hG rfl) he) ?_
      refine ev_a (fun he => ev_iload rfl rfl he) ?_
      refine ev_a (fun he => ev_push rfl he) ?_
      obtain ⟨hc88, h⟩ := cO_inv h
      obtain ⟨σ89, e90, h⟩ := lt_inv h
      have hG91 : Gr σ89 := gr_wi e90 hG
      refine ev_a (fun he => ev_astI (k := x2.toNatClampNeg) rfl (gr_ar hG rfl) hc88 rfl rfl e90 he) ?_
      refine ev_a (fun he => ev_iinc (ls' := [.ref 235, .int x1, .int (x2 + 1), d3, d4, d5, d6]) rfl rfl rfl (Nat.le_of_ble_eq_true rfl) rfl he) ?_
      refine ev_a (fun he => ev_goto rfl he) ?_
      exact hk23 x1 (x2 + 1) (d3) (d4) (d5) (d6) σ89 q h hG91
def H_X12_goes_2 (N : Nat) : Nat → Int32 → Int32 → aSt → Option (Int32 × aSt)
  | 0, _, _, _ => none
  | n + 1, x1, x2, σ => if 36 ≤ x2 then H_X12_goes_23 N N x1 0 σ else cO (¬ (x2 < 0 ∨ 36 ≤ x2.toNatClampNeg)) (lt (aWI σ 276 x2.toNatClampNeg 0) fun σ94 => (H_X12_goes_2 N n) x1 (x2 + 1) σ94)
set_option maxRecDepth 20000 in
set_option maxHeartbeats 4000000 in
theorem TH_X12_goes_2 (xs : Nat → Int32) (L : Nat) (N : Nat) : ∀ (n : Nat) (x1 : Int32) (x2 : Int32) (d3 : Value) (d4 : Value) (d5 : Value) (d6 : Value) (σ : aSt) (q : Int32 × aSt), H_X12_goes_2 N n x1 x2 σ = some q → Gr σ → Ev xs L 157 2 [.ref 235, .int x1, .int x2, d3, d4, d5, d6] [] σ (wI q.1) q.2 ∧ Gr q.2 := by
  intro n
  induction n with
  | zero =>
    intro x1 x2 d3 d4 d5 d6 σ q h hG
    exact absurd (show (none : Option (Int32 × aSt)) = some q from h) (by simp)
  | succ n ih =>
    intro x1 x2 d3 d4 d5 d6 σ q h hG
    have hk2 : ∀ (x1 : Int32) (x2 : Int32) (d3 : Value) (d4 : Value) (d5 : Value) (d6 : Value) (σ : aSt) (q : Int32 × aSt), H_X12_goes_2 N n x1 x2 σ = some q → Gr σ → Ev xs L 157 2 [.ref 235, .int x1, .int x2, d3, d4, d5, d6] [] σ (wI q.1) q.2 ∧ Gr q.2 := ih
    have h : (if 36 ≤ x2 then H_X12_goes_23 N N x1 0 σ else cO (¬ (x2 < 0 ∨ 36 ≤ x2.toNatClampNeg)) (lt (aWI σ 276 x2.toNatClampNeg 0) fun σ94 => (H_X12_goes_2 N n) x1 (x2 + 1) σ94)) = some q := h
    refine ev_a (fun he => ev_iload rfl rfl he) ?_
    refine ev_a (fun he => ev_push rfl he) ?_
    refine ev_b (c := 36 ≤ x2) (fun ht hf => ev_cge rfl ht hf) (fun hc92 => ?_) (fun hc92 => ?_)
    · rw [if_pos hc92] at h
      refine ev_a (fun he => ev_push rfl he) ?_
      refine ev_a (fun he => ev_istore (ls' := [.ref 235, .int x1, .int 0, d3, d4, d5, d6]) rfl (Nat.le_of_ble_eq_true rfl) rfl he) ?_
      exact TH_X12_goes_23 xs L N N x1 0 (d3) (d4) (d5) (d6) σ q h hG
    · rw [if_neg hc92] at h
      refine ev_a (fun he => ev_aload rfl rfl he) ?_
      refine ev_a (fun he => ev_getR rfl (gr_ob (n := 80) hG rfl) (gr_p (a := 235) (k := 59) (b := 276) hG rfl) he) ?_
      refine ev_a (fun he => ev_iload rfl rfl he) ?_
      refine ev_a (fun he => ev_push rfl he) ?_
      obtain ⟨hc93, h⟩ := cO_inv h
      obtain ⟨σ94, e95, h⟩ := lt_inv h
      have hG96 : Gr σ94 := gr_wi e95 hG
      refine ev_a (fun he => ev_astI (k := x2.toNatClampNeg) rfl (gr_ar hG rfl) hc93 rfl rfl e95 he) ?_
      refine ev_a (fun he => ev_iinc (ls' := [.ref 235, .int x1, .int (x2 + 1), d3, d4, d5, d6]) rfl rfl rfl (Nat.le_of_ble_eq_true rfl) rfl he) ?_
      refine ev_a (fun he => ev_goto rfl he) ?_
      exact hk2 x1 (x2 + 1) (d3) (d4) (d5) (d6) σ94 q h hG96
def F_X12_goes (N : Nat) (x1 : Int32) (σ : aSt) : Option (Int32 × aSt) := H_X12_goes_2 N N x1 0 σ
set_option maxRecDepth 20000 in
set_option maxHeartbeats 4000000 in
theorem T_X12_goes (xs : Nat → Int32) (L : Nat) (N : Nat) (x1 : Int32) (σ : aSt) (q : Int32 × aSt) (h : F_X12_goes N x1 σ = some q) (hG : Gr σ) : Cal xs L 157 [.ref 235, .int x1] σ (wI q.1) q.2 ∧ Gr q.2 := by
  have h : (H_X12_goes_2 N N x1 0 σ) = some q := h
  show Ev xs L 157 0 [.ref 235, .int x1, aU, aU, aU, aU, aU] [] σ (wI q.1) q.2 ∧ Gr q.2
  refine ev_a (fun he => ev_push rfl he) ?_
  refine ev_a (fun he => ev_istore (ls' := [.ref 235, .int x1, .int 0, aU, aU, aU, aU]) rfl (Nat.le_of_ble_eq_true rfl) rfl he) ?_
  exact TH_X12_goes_2 xs L N N x1 0 (aU) (aU) (aU) (aU) σ q h hG
