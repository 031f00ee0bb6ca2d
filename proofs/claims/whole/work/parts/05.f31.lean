def J_X12_brings_38 (N : Nat) (s0 : Int32) (σ : aSt) : Option (Int32 × aSt) := some (s0, σ)
set_option maxRecDepth 20000 in
set_option maxHeartbeats 4000000 in
theorem TJ_X12_brings_38 (xs : Nat → Int32) (L : Nat) (N : Nat) (s0 : Int32) (d0 : Value) (d1 : Value) (d2 : Value) (σ : aSt) (q : Int32 × aSt) (h : J_X12_brings_38 N s0 σ = some q) (hG : Gr σ) : Ev xs L 160 38 [d0, d1, d2] [.int s0] σ (wI q.1) q.2 ∧ Gr q.2 := by
  have h : (some (s0, σ)) = some q := h
  cases h
  exact ⟨ev_retI rfl, hG⟩
def F_X12_brings (N : Nat) (x1 : Int32) (σ : aSt) : Option (Int32 × aSt) := cO (¬ (x1 < 0 ∨ 24 ≤ x1.toNatClampNeg)) (cO (¬ (x1 < 0 ∨ 24 ≤ x1.toNatClampNeg)) (cO (¬ (x1 < 0 ∨ 24 ≤ x1.toNatClampNeg)) (if (aI σ 280 x1.toNatClampNeg) ≠ ((-1)) then J_X12_brings_38 N (((aI σ 281 x1.toNatClampNeg) * (aI σ 262 x1.toNatClampNeg)) - ((((aI σ 281 x1.toNatClampNeg) * (aI σ 262 x1.toNatClampNeg)) * 3) / 100)) σ else J_X12_brings_38 N (((aI σ 281 x1.toNatClampNeg) * (aI σ 262 x1.toNatClampNeg)) / 2) σ)))
set_option maxRecDepth 20000 in
set_option maxHeartbeats 4000000 in
theorem T_X12_brings (xs : Nat → Int32) (L : Nat) (N : Nat) (x1 : Int32) (σ : aSt) (q : Int32 × aSt) (h : F_X12_brings N x1 σ = some q) (hG : Gr σ) : Cal xs L 160 [.ref 235, .int x1] σ (wI q.1) q.2 ∧ Gr q.2 := by
  have h : (cO (¬ (x1 < 0 ∨ 24 ≤ x1.toNatClampNeg)) (cO (¬ (x1 < 0 ∨ 24 ≤ x1.toNatClampNeg)) (cO (¬ (x1 < 0 ∨ 24 ≤ x1.toNatClampNeg)) (if (aI σ 280 x1.toNatClampNeg) ≠ ((-1)) then J_X12_brings_38 N (((aI σ 281 x1.toNatClampNeg) * (aI σ 262 x1.toNatClampNeg)) - ((((aI σ 281 x1.toNatClampNeg) * (aI σ 262 x1.toNatClampNeg)) * 3) / 100)) σ else J_X12_brings_38 N (((aI σ 281 x1.toNatClampNeg) * (aI σ 262 x1.toNatClampNeg)) / 2) σ)))) = some q := h
  show Ev xs L 160 0 [.ref 235, .int x1, aU] [] σ (wI q.1) q.2 ∧ Gr q.2
  refine ev_a (fun he => ev_aload rfl rfl he) ?_
  refine ev_a (fun he => ev_getR rfl (gr_ob (n := 80) hG rfl) (gr_p (a := 235) (k := 64) (b := 281) hG rfl) he) ?_
  refine ev_a (fun he => ev_iload rfl rfl he) ?_
  obtain ⟨hc1, h⟩ := cO_inv h
  refine ev_a (fun he => ev_aldI (k := x1.toNatClampNeg) rfl (gr_ar hG rfl) hc1 rfl he) ?_
  refine ev_a (fun he => ev_aload rfl rfl he) ?_
  refine ev_a (fun he => ev_getR rfl (gr_ob (n := 80) hG rfl) (gr_p (a := 235) (k := 41) (b := 262) hG rfl) he) ?_
  refine ev_a (fun he => ev_iload rfl rfl he) ?_
  obtain ⟨hc2, h⟩ := cO_inv h
  refine ev_a (fun he => ev_aldI (k := x1.toNatClampNeg) rfl (gr_ar hG rfl) hc2 rfl he) ?_
  refine ev_a (fun he => ev_bin (z := (aI σ 281 x1.toNatClampNeg) * (aI σ 262 x1.toNatClampNeg)) rfl rfl he) ?_
  refine ev_a (fun he => ev_istore (ls' := [.ref 235, .int x1, .int ((aI σ 281 x1.toNatClampNeg) * (aI σ 262 x1.toNatClampNeg))]) rfl (Nat.le_of_ble_eq_true rfl) rfl he) ?_
  refine ev_a (fun he => ev_aload rfl rfl he) ?_
  refine ev_a (fun he => ev_getR rfl (gr_ob (n := 80) hG rfl) (gr_p (a := 235) (k := 63) (b := 280) hG rfl) he) ?_
  refine ev_a (fun he => ev_iload rfl rfl he) ?_
  obtain ⟨hc3, h⟩ := cO_inv h
  refine ev_a (fun he => ev_aldI (k := x1.toNatClampNeg) rfl (gr_ar hG rfl) hc3 rfl he) ?_
  refine ev_a (fun he => ev_push rfl he) ?_
  refine ev_b (c := (aI σ 280 x1.toNatClampNeg) ≠ ((-1))) (fun ht hf => ev_cne rfl ht hf) (fun hc4 => ?_) (fun hc4 => ?_)
  · rw [if_pos hc4] at h
    refine ev_a (fun he => ev_iload rfl rfl he) ?_
    refine ev_a (fun he => ev_iload rfl rfl he) ?_
    refine ev_a (fun he => ev_push rfl he) ?_
    refine ev_a (fun he => ev_bin (z := ((aI σ 281 x1.toNatClampNeg) * (aI σ 262 x1.toNatClampNeg)) * 3) rfl rfl he) ?_
    refine ev_a (fun he => ev_push rfl he) ?_
    refine ev_a (fun he => ev_div rfl (by decide) he) ?_
    refine ev_a (fun he => ev_bin (z := ((aI σ 281 x1.toNatClampNeg) * (aI σ 262 x1.toNatClampNeg)) - ((((aI σ 281 x1.toNatClampNeg) * (aI σ 262 x1.toNatClampNeg)) * 3) / 100)) rfl rfl he) ?_
    exact TJ_X12_brings_38 xs L N (((aI σ 281 x1.toNatClampNeg) * (aI σ 262 x1.toNatClampNeg)) - ((((aI σ 281 x1.toNatClampNeg) * (aI σ 262 x1.toNatClampNeg)) * 3) / 100)) (.ref 235) (.int x1) (.int ((aI σ 281 x1.toNatClampNeg) * (aI σ 262 x1.toNatClampNeg))) σ q h hG
  · rw [if_neg hc4] at h
    refine ev_a (fun he => ev_iload rfl rfl he) ?_
    refine ev_a (fun he => ev_push rfl he) ?_
    refine ev_a (fun he => ev_div rfl (by decide) he) ?_
    refine ev_a (fun he => ev_goto rfl he) ?_
    exact TJ_X12_brings_38 xs L N (((aI σ 281 x1.toNatClampNeg) * (aI σ 262 x1.toNatClampNeg)) / 2) (.ref 235) (.int x1) (.int ((aI σ 281 x1.toNatClampNeg) * (aI σ 262 x1.toNatClampNeg))) σ q h hG
def H_X12_sale_173 (N : Nat) : Nat → Int32 → Int32 → aSt → Option (Int32 × aSt)
  | 0, _, _, _ => none
  | n + 1, x1, x2, σ => if 6 ≤ x2 then some (x1, σ) else cO (¬ (x2 < 0 ∨ 6 ≤ x2.toNatClampNeg)) (cO (¬ (x2 < 0 ∨ 6 ≤ x2.toNatClampNeg)) (lt (aWI σ 272 x2.toNatClampNeg (aI σ 277 x2.toNatClampNeg)) fun σ4 => (H_X12_sale_173 N n) x1 (x2 + 1) σ4))
set_option maxRecDepth 20000 in
set_option maxHeartbeats 4000000 in
theorem TH_X12_sale_173 (xs : Nat → Int32) (L : Nat) (N : Nat) : ∀ (n : Nat) (x1 : Int32) (x2 : Int32) (σ : aSt) (q : Int32 × aSt), H_X12_sale_173 N n x1 x2 σ = some q → Gr σ → Ev xs L 159 173 [.ref 235, .int x1, .int x2] [] σ (wI q.1) q.2 ∧ Gr q.2 := by
  intro n
  induction n with
  | zero =>
    intro x1 x2 σ q h hG
    exact absurd (show (none : Option (Int32 × aSt)) = some q from h) (by simp)
  | succ n ih =>
    intro x1 x2 σ q h hG
    have hk173 : ∀ (x1 : Int32) (x2 : Int32) (σ : aSt) (q : Int32 × aSt), H_X12_sale_173 N n x1 x2 σ = some q → Gr σ → Ev xs L 159 173 [.ref 235, .int x1, .int x2] [] σ (wI q.1) q.2 ∧ Gr q.2 := ih
    have h : (if 6 ≤ x2 then some (x1, σ) else cO (¬ (x2 < 0 ∨ 6 ≤ x2.toNatClampNeg)) (cO (¬ (x2 < 0 ∨ 6 ≤ x2.toNatClampNeg)) (lt (aWI σ 272 x2.toNatClampNeg (aI σ 277 x2.toNatClampNeg)) fun σ4 => (H_X12_sale_173 N n) x1 (x2 + 1) σ4))) = some q := h
    refine ev_a (fun he => ev_iload rfl rfl he) ?_
    refine ev_a (fun he => ev_push rfl he) ?_
    refine ev_b (c := 6 ≤ x2) (fun ht hf => ev_cge rfl ht hf) (fun hc1 => ?_) (fun hc1 => ?_)
    · rw [if_pos hc1] at h
      refine ev_a (fun he => ev_iload rfl rfl he) ?_
      cases h
      exact ⟨ev_retI rfl, hG⟩
    · rw [if_neg hc1] at h
      refine ev_a (fun he => ev_aload rfl rfl he) ?_
      refine ev_a (fun he => ev_getR rfl (gr_ob (n := 80) hG rfl) (gr_p (a := 235) (k := 55) (b := 272) hG rfl) he) ?_
      refine ev_a (fun he => ev_iload rfl rfl he) ?_
      refine ev_a (fun he => ev_aload rfl rfl he) ?_
      refine ev_a (fun he => ev_getR rfl (gr_ob (n := 80) hG rfl) (gr_p (a := 235) (k := 60) (b := 277) hG rfl) he) ?_
      refine ev_a (fun he => ev_iload rfl rfl he) ?_
      obtain ⟨hc2, h⟩ := cO_inv h
      refine ev_a (fun he => ev_aldI (k := x2.toNatClampNeg) rfl (gr_ar hG rfl) hc2 rfl he) ?_
      obtain ⟨hc3, h⟩ := cO_inv h
      obtain ⟨σ4, e5, h⟩ := lt_inv h
      have hG6 : Gr σ4 := gr_wi e5 hG
      refine ev_a (fun he => ev_astI (k := x2.toNatClampNeg) rfl (gr_ar hG rfl) hc3 rfl rfl e5 he) ?_
      refine ev_a (fun he => ev_iinc (ls' := [.ref 235, .int x1, .int (x2 + 1)]) rfl rfl rfl (Nat.le_of_ble_eq_true rfl) rfl he) ?_
      refine ev_a (fun he => ev_goto rfl he) ?_
      exact hk173 x1 (x2 + 1) σ4 q h hG6
def H_X12_sale_147 (N : Nat) : Nat → Int32 → Int32 → aSt → Option (Int32 × aSt)
  | 0, _, _, _ => none
  | n + 1, x1, x2, σ => if 36 ≤ x2 then H_X12_sale_173 N N x1 0 σ else cO (¬ (x2 < 0 ∨ 36 ≤ x2.toNatClampNeg)) (cO (¬ (x2 < 0 ∨ 36 ≤ x2.toNatClampNeg)) (lt (aWI σ 271 x2.toNatClampNeg (aI σ 276 x2.toNatClampNeg)) fun σ10 => (H_X12_sale_147 N n) x1 (x2 + 1) σ10))
set_option maxRecDepth 20000 in
set_option maxHeartbeats 4000000 in
theorem TH_X12_sale_147 (xs : Nat → Int32) (L : Nat) (N : Nat) : ∀ (n : Nat) (x1 : Int32) (x2 : Int32) (σ : aSt) (q : Int32 × aSt), H_X12_sale_147 N n x1 x2 σ = some q → Gr σ → Ev xs L 159 147 [.ref 235, .int x1, .int x2] [] σ (wI q.1) q.2 ∧ Gr q.2 := by
  intro n
  induction n with
  | zero =>
    intro x1 x2 σ q h hG
    exact absurd (show (none : Option (Int32 × aSt)) = some q from h) (by simp)
  | succ n ih =>
    intro x1 x2 σ q h hG
    have hk147 : ∀ (x1 : Int32) (x2 : Int32) (σ : aSt) (q : Int32 × aSt), H_X12_sale_147 N n x1 x2 σ = some q → Gr σ → Ev xs L 159 147 [.ref 235, .int x1, .int x2] [] σ (wI q.1) q.2 ∧ Gr q.2 := ih
    have h : (if 36 ≤ x2 then H_X12_sale_173 N N x1 0 σ else cO (¬ (x2 < 0 ∨ 36 ≤ x2.toNatClampNeg)) (cO (¬ (x2 < 0 ∨ 36 ≤ x2.toNatClampNeg)) (lt (aWI σ 271 x2.toNatClampNeg (aI σ 276 x2.toNatClampNeg)) fun σ10 => (H_X12_sale_147 N n) x1 (x2 + 1) σ10))) = some q := h
    refine ev_a (fun he => ev_iload rfl rfl he) ?_
    refine ev_a (fun he => ev_push rfl he) ?_
    refine ev_b (c := 36 ≤ x2) (fun ht hf => ev_cge rfl ht hf) (fun hc7 => ?_) (fun hc7 => ?_)
    · rw [if_pos hc7] at h
      refine ev_a (fun he => ev_push rfl he) ?_
      refine ev_a (fun he => ev_istore (ls' := [.ref 235, .int x1, .int 0]) rfl (Nat.le_of_ble_eq_true rfl) rfl he) ?_
      exact TH_X12_sale_173 xs L N N x1 0 σ q h hG
    · rw [if_neg hc7] at h
      refine ev_a (fun he => ev_aload rfl rfl he) ?_
      refine ev_a (fun he => ev_getR rfl (gr_ob (n := 80) hG rfl) (gr_p (a := 235) (k := 54) (b := 271) hG rfl) he) ?_
      refine ev_a (fun he => ev_iload rfl rfl he) ?_
      refine ev_a (fun he => ev_aload rfl rfl he) ?_
      refine ev_a (fun he => ev_getR rfl (gr_ob (n := 80) hG rfl) (gr_p (a := 235) (k := 59) (b := 276) hG rfl) he) ?_
      refine ev_a (fun he => ev_iload rfl rfl he) ?_
      obtain ⟨hc8, h⟩ := cO_inv h
      refine ev_a (fun he => ev_aldI (k := x2.toNatClampNeg) rfl (gr_ar hG rfl) hc8 rfl he) ?_
      obtain ⟨hc9, h⟩ := cO_inv h
      obtain ⟨σ10, e11, h⟩ := lt_inv h
      have hG12 : Gr σ10 := gr_wi e11 hG
      refine ev_a (fun he => ev_astI (k := x2.toNatClampNeg) rfl (gr_ar hG rfl) hc9 rfl rfl e11 he) ?_
      refine ev_a (fun he => ev_iinc (ls' := [.ref 235, .int x1, .int (x2 + 1)]) rfl rfl rfl (Nat.le_of_ble_eq_true rfl) rfl he) ?_
      refine ev_a (fun he => ev_goto rfl he) ?_
      exact hk147 x1 (x2 + 1) σ10 q h hG12
def J_X12_sale_139 (N : Nat) (k23 : Int32 → Int32 → aSt → Option (Int32 × aSt)) (x1 : Int32) (x2 : Int32) (σ : aSt) : Option (Int32 × aSt) := k23 x1 (x2 + 1) σ
set_option maxRecDepth 20000 in
set_option maxHeartbeats 4000000 in
theorem TJ_X12_sale_139 (xs : Nat → Int32) (L : Nat) (N : Nat) (k23 : Int32 → Int32 → aSt → Option (Int32 × aSt)) (hk23 : ∀ (x1 : Int32) (x2 : Int32) (σ : aSt) (q : Int32 × aSt), k23 x1 x2 σ = some q → Gr σ → Ev xs L 159 23 [.ref 235, .int x1, .int x2] [] σ (wI q.1) q.2 ∧ Gr q.2) (x1 : Int32) (x2 : Int32) (σ : aSt) (q : Int32 × aSt) (h : J_X12_sale_139 N k23 x1 x2 σ = some q) (hG : Gr σ) : Ev xs L 159 139 [.ref 235, .int x1, .int x2] [] σ (wI q.1) q.2 ∧ Gr q.2 := by
  have h : (k23 x1 (x2 + 1) σ) = some q := h
  refine ev_a (fun he => ev_iinc (ls' := [.ref 235, .int x1, .int (x2 + 1)]) rfl rfl rfl (Nat.le_of_ble_eq_true rfl) rfl he) ?_
  refine ev_a (fun he => ev_goto rfl he) ?_
  exact hk23 x1 (x2 + 1) σ q h hG
def H_X12_sale_23 (N : Nat) : Nat → Int32 → Int32 → aSt → Option (Int32 × aSt)
  | 0, _, _, _ => none
  | n + 1, x1, x2, σ => if (aI σ 235 37) ≤ x2 then H_X12_sale_147 N N x1 0 σ else cO (¬ (x2 < 0 ∨ 24 ≤ x2.toNatClampNeg)) (cO (¬ (x2 < 0 ∨ 24 ≤ x2.toNatClampNeg)) (lt (aWI σ 287 x2.toNatClampNeg (aI σ 280 x2.toNatClampNeg)) fun σ16 => cO (¬ (x2 < 0 ∨ 24 ≤ x2.toNatClampNeg)) (cO (¬ (x2 < 0 ∨ 24 ≤ x2.toNatClampNeg)) (lt (aWI σ16 288 x2.toNatClampNeg (aI σ16 281 x2.toNatClampNeg)) fun σ21 => cO (¬ (x2 < 0 ∨ 24 ≤ x2.toNatClampNeg)) (cO (¬ (x2 < 0 ∨ 24 ≤ x2.toNatClampNeg)) (lt (aWI σ21 289 x2.toNatClampNeg (aI σ21 282 x2.toNatClampNeg)) fun σ26 => cO (¬ (x2 < 0 ∨ 24 ≤ x2.toNatClampNeg)) (cO (¬ (x2 < 0 ∨ 24 ≤ x2.toNatClampNeg)) (lt (aWI σ26 290 x2.toNatClampNeg (aI σ26 283 x2.toNatClampNeg)) fun σ31 => cO (¬ (x2 < 0 ∨ 24 ≤ x2.toNatClampNeg)) (cO (¬ (x2 < 0 ∨ 24 ≤ x2.toNatClampNeg)) (lt (aWI σ31 291 x2.toNatClampNeg (aI σ31 284 x2.toNatClampNeg)) fun σ36 => cO (¬ (x2 < 0 ∨ 24 ≤ x2.toNatClampNeg)) (cO (¬ (x2 < 0 ∨ 24 ≤ x2.toNatClampNeg)) (lt (aWI σ36 292 x2.toNatClampNeg (aI σ36 285 x2.toNatClampNeg)) fun σ41 => oB (F_X12_brings N x2 σ41) fun y44 σ45 => cO (¬ (x2 < 0 ∨ 24 ≤ x2.toNatClampNeg)) (lt (aWI σ45 293 x2.toNatClampNeg y44) fun σ50 => cO (¬ (x2 < 0 ∨ 24 ≤ x2.toNatClampNeg)) (if (aI σ50 280 x2.toNatClampNeg) = ((-1)) then J_X12_sale_139 N (H_X12_sale_23 N n) x1 x2 σ50 else cO (¬ (x2 < 0 ∨ 24 ≤ x2.toNatClampNeg)) (cO (¬ ((aI σ50 280 x2.toNatClampNeg) < 0 ∨ 6 ≤ (aI σ50 280 x2.toNatClampNeg).toNatClampNeg)) (cO (¬ ((aI σ50 280 x2.toNatClampNeg) < 0 ∨ 6 ≤ (aI σ50 280 x2.toNatClampNeg).toNatClampNeg)) (lt (aWI σ50 273 (aI σ50 280 x2.toNatClampNeg).toNatClampNeg ((aI σ50 273 (aI σ50 280 x2.toNatClampNeg).toNatClampNeg) + 1)) fun σ58 => J_X12_sale_139 N (H_X12_sale_23 N n) x1 x2 σ58)))))))))))))))))
set_option maxRecDepth 20000 in
set_option maxHeartbeats 4000000 in
theorem TH_X12_sale_23 (xs : Nat → Int32) (L : Nat) (N : Nat) : ∀ (n : Nat) (x1 : Int32) (x2 : Int32) (σ : aSt) (q : Int32 × aSt), H_X12_sale_23 N n x1 x2 σ = some q → Gr σ → Ev xs L 159 23 [.ref 235, .int x1, .int x2] [] σ (wI q.1) q.2 ∧ Gr q.2 := by
  intro n
  induction n with
  | zero =>
    intro x1 x2 σ q h hG
    exact absurd (show (none : Option (Int32 × aSt)) = some q from h) (by simp)
  | succ n ih =>
    intro x1 x2 σ q h hG
    have hk23 : ∀ (x1 : Int32) (x2 : Int32) (σ : aSt) (q : Int32 × aSt), H_X12_sale_23 N n x1 x2 σ = some q → Gr σ → Ev xs L 159 23 [.ref 235, .int x1, .int x2] [] σ (wI q.1) q.2 ∧ Gr q.2 := ih
    have h : (if (aI σ 235 37) ≤ x2 then H_X12_sale_147 N N x1 0 σ else cO (¬ (x2 < 0 ∨ 24 ≤ x2.toNatClampNeg)) (cO (¬ (x2 < 0 ∨ 24 ≤ x2.toNatClampNeg)) (lt (aWI σ 287 x2.toNatClampNeg (aI σ 280 x2.toNatClampNeg)) fun σ16 => cO (¬ (x2 < 0 ∨ 24 ≤ x2.toNatClampNeg)) (cO (¬ (x2 < 0 ∨ 24 ≤ x2.toNatClampNeg)) (lt (aWI σ16 288 x2.toNatClampNeg (aI σ16 281 x2.toNatClampNeg)) fun σ21 => cO (¬ (x2 < 0 ∨ 24 ≤ x2.toNatClampNeg)) (cO (¬ (x2 < 0 ∨ 24 ≤ x2.toNatClampNeg)) (lt (aWI σ21 289 x2.toNatClampNeg (aI σ21 282 x2.toNatClampNeg)) fun σ26 => cO (¬ (x2 < 0 ∨ 24 ≤ x2.toNatClampNeg)) (cO (¬ (x2 < 0 ∨ 24 ≤ x2.toNatClampNeg)) (lt (aWI σ26 290 x2.toNatClampNeg (aI σ26 283 x2.toNatClampNeg)) fun σ31 => cO (¬ (x2 < 0 ∨ 24 ≤ x2.toNatClampNeg)) (cO (¬ (x2 < 0 ∨ 24 ≤ x2.toNatClampNeg)) (lt (aWI σ31 291 x2.toNatClampNeg (aI σ31 284 x2.toNatClampNeg)) fun σ36 => cO (¬ (x2 < 0 ∨ 24 ≤ x2.toNatClampNeg)) (cO (¬ (x2 < 0 ∨ 24 ≤ x2.toNatClampNeg)) (lt (aWI σ36 292 x2.toNatClampNeg (aI σ36 285 x2.toNatClampNeg)) fun σ41 => oB (F_X12_brings N x2 σ41) fun y44 σ45 => cO (¬ (x2 < 0 ∨ 24 ≤ x2.toNatClampNeg)) (lt (aWI σ45 293 x2.toNatClampNeg y44) fun σ50 => cO (¬ (x2 < 0 ∨ 24 ≤ x2.toNatClampNeg)) (if (aI σ50 280 x2.toNatClampNeg) = ((-1)) then J_X12_sale_139 N (H_X12_sale_23 N n) x1 x2 σ50 else cO (¬ (x2 < 0 ∨ 24 ≤ x2.toNatClampNeg)) (cO (¬ ((aI σ50 280 x2.toNatClampNeg) < 0 ∨ 6 ≤ (aI σ50 280 x2.toNatClampNeg).toNatClampNeg)) (cO (¬ ((aI σ50 280 x2.toNatClampNeg) < 0 ∨ 6 ≤ (aI σ50 280 x2.toNatClampNeg).toNatClampNeg)) (lt (aWI σ50 273 (aI σ50 280 x2.toNatClampNeg).toNatClampNeg ((aI σ50 273 (aI σ50 280 x2.toNatClampNeg).toNatClampNeg) + 1)) fun σ58 => J_X12_sale_139 N (H_X12_sale_23 N n) x1 x2 σ58)))))))))))))))))) = some q := h
    refine ev_a (fun he => ev_iload rfl rfl he) ?_
    refine ev_a (fun he => ev_aload rfl rfl he) ?_
    refine ev_a (fun he => ev_getI rfl (gr_ob (n := 80) hG rfl) he) ?_
    refine ev_b (c := (aI σ 235 37) ≤ x2) (fun ht hf => ev_cge rfl ht hf) (fun hc13 => ?_) (fun hc13 => ?_)
    · rw [if_pos hc13] at h
      refine ev_a (fun he => ev_push rfl he) ?_
      refine ev_a (fun he => ev_istore (ls' := [.ref 235, .int x1, .int 0]) rfl (Nat.le_of_ble_eq_true rfl) rfl he) ?_
      exact TH_X12_sale_147 xs L N N x1 0 σ q h hG
    · rw [if_neg hc13] at h
      refine ev_a (fun he => ev_aload rfl rfl he) ?_
      refine ev_a (fun he => ev_getR rfl (gr_ob (n := 80) hG rfl) (gr_p (a := 235) (k := 70) (b := 287) hG rfl) he) ?_
      refine ev_a (fun he => ev_iload rfl rfl he) ?_
      refine ev_a (fun he => ev_aload rfl rfl he) ?_
      refine ev_a (fun he => ev_getR rfl (gr_ob (n := 80) hG rfl) (gr_p (a := 235) (k := 63) (b := 280) hG rfl) he) ?_
      refine ev_a (fun he => ev_iload rfl rfl he) ?_
      obtain ⟨hc14, h⟩ := cO_inv h
      refine ev_a (fun he => ev_aldI (k := x2.toNatClampNeg) rfl (gr_ar hG rfl) hc14 rfl he) ?_
      obtain ⟨hc15, h⟩ := cO_inv h
      obtain ⟨σ16, e17, h⟩ := lt_inv h
      have hG18 : Gr σ16 := gr_wi e17 hG
      refine ev_a (fun he => ev_astI (k := x2.toNatClampNeg) rfl (gr_ar hG rfl) hc15 rfl rfl e17 he) ?_
      refine ev_a (fun he => ev_aload rfl rfl he) ?_
      refine ev_a (fun he => ev_getR rfl (gr_ob (n := 80) hG18 rfl) (gr_p (a := 235) (k := 71) (b := 288) hG18 rfl) he) ?_
      refine ev_a (fun he => ev_iload rfl rfl he) ?_
      refine ev_a (fun he => ev_aload rfl rfl he) ?_
      refine ev_a (fun he => ev_getR rfl (gr_ob (n := 80) hG18 rfl) (gr_p (a := 235) (k := 64) (b := 281) hG18 rfl) he) ?_
      refine ev_a (fun he => ev_iload rfl rfl he) ?_
      obtain ⟨hc19, h⟩ := cO_inv h
      refine ev_a (fun he => ev_aldI (k := x2.toNatClampNeg) rfl (gr_ar hG18 rfl) hc19 rfl he) ?_
      obtain ⟨hc20, h⟩ := cO_inv h
      obtain ⟨σ21, e22, h⟩ := lt_inv h
      have hG23 : Gr σ21 := gr_wi e22 hG18
      refine ev_a (fun he => ev_astI (k := x2.toNatClampNeg) rfl (gr_ar hG18 rfl) hc20 rfl rfl e22 he) ?_
      refine ev_a (fun he => ev_aload rfl rfl he) ?_
      refine ev_a (fun he => ev_getR rfl (gr_ob (n := 80) hG23 rfl) (gr_p (a := 235) (k := 72) (b := 289) hG23 rfl) he) ?_
      refine ev_a (fun he => ev_iload rfl rfl he) ?_
      refine ev_a (fun he => ev_aload rfl rfl he) ?_
      refine ev_a (fun he => ev_getR rfl (gr_ob (n := 80) hG23 rfl) (gr_p (a := 235) (k := 65) (b := 282) hG23 rfl) he) ?_
      refine ev_a (fun he => ev_iload rfl rfl he) ?_
      obtain ⟨hc24, h⟩ := cO_inv h
      refine ev_a (fun he => ev_aldI (k := x2.toNatClampNeg) rfl (gr_ar hG23 rfl) hc24 rfl he) ?_
      obtain ⟨hc25, h⟩ := cO_inv h
      obtain ⟨σ26, e27, h⟩ := lt_inv h
      have hG28 : Gr σ26 := gr_wi e27 hG23
      refine ev_a (fun he => ev_astI (k := x2.toNatClampNeg) rfl (gr_ar hG23 rfl) hc25 rfl rfl e27 he) ?_
      refine ev_a (fun he => ev_aload rfl rfl he) ?_
      refine ev_a (fun he => ev_getR rfl (gr_ob (n := 80) hG28 rfl) (gr_p (a := 235) (k := 73) (b := 290) hG28 rfl) he) ?_
      refine ev_a (fun he => ev_iload rfl rfl he) ?_
      refine ev_a (fun he => ev_aload rfl rfl he) ?_
      refine ev_a (fun he => ev_getR rfl (gr_ob (n := 80) hG28 rfl) (gr_p (a := 235) (k := 66) (b := 283) hG28 rfl) he) ?_
      refine ev_a (fun he => ev_iload rfl rfl he) ?_
      obtain ⟨hc29, h⟩ := cO_inv h
      refine ev_a (fun he => ev_aldI (k := x2.toNatClampNeg) rfl (gr_ar hG28 rfl) hc29 rfl he) ?_
      obtain ⟨hc30, h⟩ := cO_inv h
      obtain ⟨σ31, e32, h⟩ := lt_inv h
      have hG33 : Gr σ31 := gr_wi e32 hG28
      refine ev_a (fun he => ev_astI (k := x2.toNatClampNeg) rfl (gr_ar hG28 rfl) hc30 rfl rfl e32 he) ?_
      refine ev_a (fun he => ev_aload rfl rfl he) ?_
      refine ev_a (fun he => ev_getR rfl (gr_ob (n := 80) hG33 rfl) (gr_p (a := 235) (k := 74) (b := 291) hG33 rfl) he) ?_
      refine ev_a (fun he => ev_iload rfl rfl he) ?_
      refine ev_a (fun he => ev_aload rfl rfl he) ?_
      refine ev_a (fun he => ev_getR rfl (gr_ob (n := 80) hG33 rfl) (gr_p (a := 235) (k := 67) (b := 284) hG33 rfl) he) ?_
      refine ev_a (fun he => ev_iload rfl rfl he) ?_
      obtain ⟨hc34, h⟩ := cO_inv h
      refine ev_a (fun he => ev_aldI (k := x2.toNatClampNeg) rfl (gr_ar hG33 rfl) hc34 rfl he) ?_
      obtain ⟨hc35, h⟩ := cO_inv h
      obtain ⟨σ36, e37, h⟩ := lt_inv h
      have hG38 : Gr σ36 := gr_wi e37 hG33
      refine ev_a (fun he => ev_astI (k := x2.toNatClampNeg) rfl (gr_ar hG33 rfl) hc35 rfl rfl e37 he) ?_
      refine ev_a (fun he => ev_aload rfl rfl he) ?_
      refine ev_a (fun he => ev_getR rfl (gr_ob (n := 80) hG38 rfl) (gr_p (a := 235) (k := 75) (b := 292) hG38 rfl) he) ?_
      refine ev_a (fun he => ev_iload rfl rfl he) ?_
      refine ev_a (fun he => ev_aload rfl rfl he) ?_
      refine ev_a (fun he => ev_getR rfl (gr_ob (n := 80) hG38 rfl) (gr_p (a := 235) (k := 68) (b := 285) hG38 rfl) he) ?_
      refine ev_a (fun he => ev_iload rfl rfl he) ?_
      obtain ⟨hc39, h⟩ := cO_inv h
      refine ev_a (fun he => ev_aldI (k := x2.toNatClampNeg) rfl (gr_ar hG38 rfl) hc39 rfl he) ?_
      obtain ⟨hc40, h⟩ := cO_inv h
      obtain ⟨σ41, e42, h⟩ := lt_inv h
      have hG43 : Gr σ41 := gr_wi e42 hG38
      refine ev_a (fun he => ev_astI (k := x2.toNatClampNeg) rfl (gr_ar hG38 rfl) hc40 rfl rfl e42 he) ?_
      refine ev_a (fun he => ev_aload rfl rfl he) ?_
      refine ev_a (fun he => ev_getR rfl (gr_ob (n := 80) hG43 rfl) (gr_p (a := 235) (k := 76) (b := 293) hG43 rfl) he) ?_
      refine ev_a (fun he => ev_iload rfl rfl he) ?_
      refine ev_a (fun he => ev_aload rfl rfl he) ?_
      refine ev_a (fun he => ev_iload rfl rfl he) ?_
      obtain ⟨y44, σ45, h46, h⟩ := oB_inv h
      obtain ⟨c47, hG48⟩ := T_X12_brings xs L N x2 σ41 (y44, σ45) h46 hG43
      refine ev_a (fun he => ev_callV (as := [.int x2]) rfl (gr_ob (n := 80) hG43 rfl) rfl rfl rfl (Nat.le_of_ble_eq_true rfl) (Nat.le_of_ble_eq_true rfl) c47 he) ?_
      obtain ⟨hc49, h⟩ := cO_inv h
      obtain ⟨σ50, e51, h⟩ := lt_inv h
      have hG52 : Gr σ50 := gr_wi e51 hG48
      refine ev_a (fun he => ev_astI (k := x2.toNatClampNeg) rfl (gr_ar hG48 rfl) hc49 rfl rfl e51 he) ?_
      refine ev_a (fun he => ev_aload rfl rfl he) ?_
      refine ev_a (fun he => ev_getR rfl (gr_ob (n := 80) hG52 rfl) (gr_p (a := 235) (k := 63) (b := 280) hG52 rfl) he) ?_
      refine ev_a (fun he => ev_iload rfl rfl he) ?_
      obtain ⟨hc53, h⟩ := cO_inv h
      refine ev_a (fun he => ev_aldI (k := x2.toNatClampNeg) rfl (gr_ar hG52 rfl) hc53 rfl he) ?_
      refine ev_a (fun he => ev_push rfl he) ?_
      refine ev_b (c := (aI σ50 280 x2.toNatClampNeg) = ((-1))) (fun ht hf => ev_ceq rfl ht hf) (fun hc54 => ?_) (fun hc54 => ?_)
      · rw [if_pos hc54] at h
        exact TJ_X12_sale_139 xs L N (H_X12_sale_23 N n) hk23 x1 x2 σ50 q h hG52
      · rw [if_neg hc54] at h
        refine ev_a (fun he => ev_aload rfl rfl he) ?_
        refine ev_a (fun he => ev_getR rfl (gr_ob (n := 80) hG52 rfl) (gr_p (a := 235) (k := 56) (b := 273) hG52 rfl) he) ?_
        refine ev_a (fun he => ev_aload rfl rfl he) ?_
        refine ev_a (fun he => ev_getR rfl (gr_ob (n := 80) hG52 rfl) (gr_p (a := 235) (k := 63) (b := 280) hG52 rfl) he) ?_
        refine ev_a (fun he => ev_iload rfl rfl he) ?_
        obtain ⟨hc55, h⟩ := cO_inv h
        refine ev_a (fun he => ev_aldI (k := x2.toNatClampNeg) rfl (gr_ar hG52 rfl) hc55 rfl he) ?_
        refine ev_a (fun he => ev_dup2 rfl he) ?_
        obtain ⟨hc56, h⟩ := cO_inv h
        refine ev_a (fun he => ev_aldI (k := (aI σ50 280 x2.toNatClampNeg).toNatClampNeg) rfl (gr_ar hG52 rfl) hc56 rfl he) ?_
        refine ev_a (fun he => ev_push rfl he) ?_
        refine ev_a (fun he => ev_bin (z := (aI σ50 273 (aI σ50 280 x2.toNatClampNeg).toNatClampNeg) + 1) rfl rfl he) ?_
        obtain ⟨hc57, h⟩ := cO_inv h
        obtain ⟨σ58, e59, h⟩ := lt_inv h
        have hG60 : Gr σ58 := gr_wi e59 hG52
        refine ev_a (fun he => ev_astI (k := (aI σ50 280 x2.toNatClampNeg).toNatClampNeg) rfl (gr_ar hG52 rfl) hc57 rfl rfl e59 he) ?_
        exact TJ_X12_sale_139 xs L N (H_X12_sale_23 N n) hk23 x1 x2 σ58 q h hG60
def F_X12_sale (N : Nat) (σ : aSt) : Option (Int32 × aSt) := if (aI σ 235 53) = 0 then oB (F_X12_goes N ((-1)) σ) fun y62 σ63 => lt (aWI σ63 235 53 1) fun σ67 => H_X12_sale_23 N N y62 0 σ67 else some ((-2), σ)
set_option maxRecDepth 20000 in
set_option maxHeartbeats 4000000 in
theorem T_X12_sale (xs : Nat → Int32) (L : Nat) (N : Nat) (σ : aSt) (q : Int32 × aSt) (h : F_X12_sale N σ = some q) (hG : Gr σ) : Cal xs L 159 [.ref 235] σ (wI q.1) q.2 ∧ Gr q.2 := by
  have h : (if (aI σ 235 53) = 0 then oB (F_X12_goes N ((-1)) σ) fun y62 σ63 => lt (aWI σ63 235 53 1) fun σ67 => H_X12_sale_23 N N y62 0 σ67 else some ((-2), σ)) = some q := h
  show Ev xs L 159 0 [.ref 235, aU, aU] [] σ (wI q.1) q.2 ∧ Gr q.2
  refine ev_a (fun he => ev_aload rfl rfl he) ?_
  refine ev_a (fun he => ev_getI rfl (gr_ob (n := 80) hG rfl) he) ?_
  refine ev_b (c := (aI σ 235 53) = 0) (fun ht hf => ev_ifeq rfl ht hf) (fun hc61 => ?_) (fun hc61 => ?_)
  · rw [if_pos hc61] at h
    refine ev_a (fun he => ev_aload rfl rfl he) ?_
    refine ev_a (fun he => ev_push rfl he) ?_
    obtain ⟨y62, σ63, h64, h⟩ := oB_inv h
    obtain ⟨c65, hG66⟩ := T_X12_goes xs L N ((-1)) σ (y62, σ63) h64 hG
    refine ev_a (fun he => ev_callV (as := [.int ((-1))]) rfl (gr_ob (n := 80) hG rfl) rfl rfl rfl (Nat.le_of_ble_eq_true rfl) (Nat.le_of_ble_eq_true rfl) c65 he) ?_
    refine ev_a (fun he => ev_istore (ls' := [.ref 235, .int y62, aU]) rfl (Nat.le_of_ble_eq_true rfl) rfl he) ?_
    refine ev_a (fun he => ev_aload rfl rfl he) ?_
    refine ev_a (fun he => ev_push rfl he) ?_
    obtain ⟨σ67, e68, h⟩ := lt_inv h
    have hG69 : Gr σ67 := gr_wi e68 hG66
    refine ev_a (fun he => ev_putZ rfl (gr_ob (n := 80) hG66 rfl) (Or.inr rfl) e68 he) ?_
    refine ev_a (fun he => ev_push rfl he) ?_
    refine ev_a (fun he => ev_istore (ls' := [.ref 235, .int y62, .int 0]) rfl (Nat.le_of_ble_eq_true rfl) rfl he) ?_
    exact TH_X12_sale_23 xs L N N y62 0 σ67 q h hG69
  · rw [if_neg hc61] at h
    refine ev_a (fun he => ev_push rfl he) ?_
    cases h
    exact ⟨ev_retI rfl, hG⟩
