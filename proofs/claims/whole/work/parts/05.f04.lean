def J_X3_countFewest_100 (N : Nat) (k42 : Int32 → Int32 → aSt → Option (Unit × aSt)) (k48 : Int32 → Int32 → Int32 → aSt → Option (Unit × aSt)) (x1 : Int32) (x2 : Int32) (x3 : Int32) (x4 : Int32) (s0 : Int32) (σ : aSt) : Option (Unit × aSt) := cO (¬ (x2 < 0 ∨ 25 ≤ x2.toNatClampNeg)) (oB (F_J9_min_7cf53 N x4 s0 σ) fun y2 σ3 => cO (¬ (x3 < 0 ∨ 61 ≤ x3.toNatClampNeg)) (lt (aWI σ3 (197 + x2.toNatClampNeg) x3.toNatClampNeg y2) fun σ8 => k48 x1 x2 (x3 + 1) σ8))
set_option maxRecDepth 20000 in
set_option maxHeartbeats 4000000 in
theorem TJ_X3_countFewest_100 (xs : Nat → Int32) (L : Nat) (N : Nat) (k42 : Int32 → Int32 → aSt → Option (Unit × aSt)) (k48 : Int32 → Int32 → Int32 → aSt → Option (Unit × aSt)) (hk42 : ∀ (x1 : Int32) (x2 : Int32) (d3 : Value) (d4 : Value) (d5 : Value) (σ : aSt) (q : Unit × aSt), k42 x1 x2 σ = some q → Gr σ → Ev xs L 21 42 [.ref 193, .int x1, .int x2, d3, d4, d5] [] σ (wV q.1) q.2 ∧ Gr q.2) (hk48 : ∀ (x1 : Int32) (x2 : Int32) (x3 : Int32) (d4 : Value) (d5 : Value) (σ : aSt) (q : Unit × aSt), k48 x1 x2 x3 σ = some q → Gr σ → Ev xs L 21 48 [.ref 193, .int x1, .int x2, .int x3, d4, d5] [] σ (wV q.1) q.2 ∧ Gr q.2) (x1 : Int32) (x2 : Int32) (x3 : Int32) (x4 : Int32) (s0 : Int32) (d5 : Value) (σ : aSt) (q : Unit × aSt) (h : J_X3_countFewest_100 N k42 k48 x1 x2 x3 x4 s0 σ = some q) (hG : Gr σ) : Ev xs L 21 100 [.ref 193, .int x1, .int x2, .int x3, .int x4, d5] [.int s0] σ (wV q.1) q.2 ∧ Gr q.2 := by
  have h : (cO (¬ (x2 < 0 ∨ 25 ≤ x2.toNatClampNeg)) (oB (F_J9_min_7cf53 N x4 s0 σ) fun y2 σ3 => cO (¬ (x3 < 0 ∨ 61 ≤ x3.toNatClampNeg)) (lt (aWI σ3 (197 + x2.toNatClampNeg) x3.toNatClampNeg y2) fun σ8 => k48 x1 x2 (x3 + 1) σ8))) = some q := h
  refine ev_a (fun he => ev_istore (ls' := [.ref 193, .int x1, .int x2, .int x3, .int x4, .int s0]) rfl (Nat.le_of_ble_eq_true rfl) rfl he) ?_
  refine ev_a (fun he => ev_aload rfl rfl he) ?_
  refine ev_a (fun he => ev_getR rfl (gr_ob (n := 4) hG rfl) (gr_p (a := 193) (k := 3) (b := 196) hG rfl) he) ?_
  refine ev_a (fun he => ev_iload rfl rfl he) ?_
  obtain ⟨hc1, h⟩ := cO_inv h
  refine ev_a (fun he => ev_aldR rfl (gr_ar hG rfl) (by decide) hc1 (gr_p hG (el_Fw hc1).1) he) ?_
  refine ev_a (fun he => ev_iload rfl rfl he) ?_
  refine ev_a (fun he => ev_iload rfl rfl he) ?_
  refine ev_a (fun he => ev_iload rfl rfl he) ?_
  obtain ⟨y2, σ3, h4, h⟩ := oB_inv h
  obtain ⟨c5, hG6⟩ := T_J9_min_7cf53 xs L N x4 s0 σ (y2, σ3) h4 hG
  refine ev_a (fun he => ev_callS (as := [.int x4, .int s0]) rfl rfl rfl rfl (Nat.le_of_ble_eq_true rfl) (Nat.le_of_ble_eq_true rfl) c5 he) ?_
  obtain ⟨hc7, h⟩ := cO_inv h
  obtain ⟨σ8, e9, h⟩ := lt_inv h
  have hG10 : Gr σ8 := gr_wi e9 hG6
  refine ev_a (fun he => ev_astI (k := x3.toNatClampNeg) rfl (gr_ar hG6 (el_Fw hc1).2) hc7 rfl rfl e9 he) ?_
  refine ev_a (fun he => ev_iinc (ls' := [.ref 193, .int x1, .int x2, .int (x3 + 1), .int x4, .int s0]) rfl rfl rfl (Nat.le_of_ble_eq_true rfl) rfl he) ?_
  refine ev_a (fun he => ev_goto rfl he) ?_
  exact hk48 x1 x2 (x3 + 1) (.int x4) (.int s0) σ8 q h hG10
def H_X3_countFewest_48 (N : Nat) (k42 : Int32 → Int32 → aSt → Option (Unit × aSt)) : Nat → Int32 → Int32 → Int32 → aSt → Option (Unit × aSt)
  | 0, _, _, _, _ => none
  | n + 1, x1, x2, x3, σ => if x1 < x3 then k42 x1 (x2 + (-1)) σ else cO (¬ ((x2 + 1) < 0 ∨ 25 ≤ (x2 + 1).toNatClampNeg)) (cO (¬ (x3 < 0 ∨ 61 ≤ x3.toNatClampNeg)) (cO (¬ (x2 < 0 ∨ 24 ≤ x2.toNatClampNeg)) (if x3 < (aI σ 195 x2.toNatClampNeg) then J_X3_countFewest_100 N k42 (H_X3_countFewest_48 N k42 n) x1 x2 x3 (aI σ (197 + (x2 + 1).toNatClampNeg) x3.toNatClampNeg) 1000 σ else cO (¬ ((x2 + 1) < 0 ∨ 25 ≤ (x2 + 1).toNatClampNeg)) (cO (¬ (x2 < 0 ∨ 24 ≤ x2.toNatClampNeg)) (cO (¬ ((x3 - (aI σ 195 x2.toNatClampNeg)) < 0 ∨ 61 ≤ (x3 - (aI σ 195 x2.toNatClampNeg)).toNatClampNeg)) (J_X3_countFewest_100 N k42 (H_X3_countFewest_48 N k42 n) x1 x2 x3 (aI σ (197 + (x2 + 1).toNatClampNeg) x3.toNatClampNeg) ((aI σ (197 + (x2 + 1).toNatClampNeg) (x3 - (aI σ 195 x2.toNatClampNeg)).toNatClampNeg) + 1) σ))))))
set_option maxRecDepth 20000 in
set_option maxHeartbeats 4000000 in
theorem TH_X3_countFewest_48 (xs : Nat → Int32) (L : Nat) (N : Nat) (k42 : Int32 → Int32 → aSt → Option (Unit × aSt)) (hk42 : ∀ (x1 : Int32) (x2 : Int32) (d3 : Value) (d4 : Value) (d5 : Value) (σ : aSt) (q : Unit × aSt), k42 x1 x2 σ = some q → Gr σ → Ev xs L 21 42 [.ref 193, .int x1, .int x2, d3, d4, d5] [] σ (wV q.1) q.2 ∧ Gr q.2) : ∀ (n : Nat) (x1 : Int32) (x2 : Int32) (x3 : Int32) (d4 : Value) (d5 : Value) (σ : aSt) (q : Unit × aSt), H_X3_countFewest_48 N k42 n x1 x2 x3 σ = some q → Gr σ → Ev xs L 21 48 [.ref 193, .int x1, .int x2, .int x3, d4, d5] [] σ (wV q.1) q.2 ∧ Gr q.2 := by
  intro n
  induction n with
  | zero =>
    intro x1 x2 x3 d4 d5 σ q h hG
    exact absurd (show (none : Option (Unit × aSt)) = some q from h) (by simp)
  | succ n ih =>
    intro x1 x2 x3 d4 d5 σ q h hG
    have hk48 : ∀ (x1 : Int32) (x2 : Int32) (x3 : Int32) (d4 : Value) (d5 : Value) (σ : aSt) (q : Unit × aSt), H_X3_countFewest_48 N k42 n x1 x2 x3 σ = some q → Gr σ → Ev xs L 21 48 [.ref 193, .int x1, .int x2, .int x3, d4, d5] [] σ (wV q.1) q.2 ∧ Gr q.2 := ih
    have h : (if x1 < x3 then k42 x1 (x2 + (-1)) σ else cO (¬ ((x2 + 1) < 0 ∨ 25 ≤ (x2 + 1).toNatClampNeg)) (cO (¬ (x3 < 0 ∨ 61 ≤ x3.toNatClampNeg)) (cO (¬ (x2 < 0 ∨ 24 ≤ x2.toNatClampNeg)) (if x3 < (aI σ 195 x2.toNatClampNeg) then J_X3_countFewest_100 N k42 (H_X3_countFewest_48 N k42 n) x1 x2 x3 (aI σ (197 + (x2 + 1).toNatClampNeg) x3.toNatClampNeg) 1000 σ else cO (¬ ((x2 + 1) < 0 ∨ 25 ≤ (x2 + 1).toNatClampNeg)) (cO (¬ (x2 < 0 ∨ 24 ≤ x2.toNatClampNeg)) (cO (¬ ((x3 - (aI σ 195 x2.toNatClampNeg)) < 0 ∨ 61 ≤ (x3 - (aI σ 195 x2.toNatClampNeg)).toNatClampNeg)) (J_X3_countFewest_100 N k42 (H_X3_countFewest_48 N k42 n) x1 x2 x3 (aI σ (197 + (x2 + 1).toNatClampNeg) x3.toNatClampNeg) ((aI σ (197 + (x2 + 1).toNatClampNeg) (x3 - (aI σ 195 x2.toNatClampNeg)).toNatClampNeg) + 1) σ))))))) = some q := h
    refine ev_a (fun he => ev_iload rfl rfl he) ?_
    refine ev_a (fun he => ev_iload rfl rfl he) ?_
    refine ev_b (c := x1 < x3) (fun ht hf => ev_cgt rfl ht hf) (fun hc11 => ?_) (fun hc11 => ?_)
    · rw [if_pos hc11] at h
      refine ev_a (fun he => ev_iinc (ls' := [.ref 193, .int x1, .int (x2 + (-1)), .int x3, d4, d5]) rfl rfl rfl (Nat.le_of_ble_eq_true rfl) rfl he) ?_
      refine ev_a (fun he => ev_goto rfl he) ?_
      exact hk42 x1 (x2 + (-1)) (.int x3) (d4) (d5) σ q h hG
    · rw [if_neg hc11] at h
      refine ev_a (fun he => ev_aload rfl rfl he) ?_
      refine ev_a (fun he => ev_getR rfl (gr_ob (n := 4) hG rfl) (gr_p (a := 193) (k := 3) (b := 196) hG rfl) he) ?_
      refine ev_a (fun he => ev_iload rfl rfl he) ?_
      refine ev_a (fun he => ev_push rfl he) ?_
      refine ev_a (fun he => ev_bin (z := x2 + 1) rfl rfl he) ?_
      obtain ⟨hc12, h⟩ := cO_inv h
      refine ev_a (fun he => ev_aldR rfl (gr_ar hG rfl) (by decide) hc12 (gr_p hG (el_Fw hc12).1) he) ?_
      refine ev_a (fun he => ev_iload rfl rfl he) ?_
      obtain ⟨hc13, h⟩ := cO_inv h
      refine ev_a (fun he => ev_aldI (k := x3.toNatClampNeg) rfl (gr_ar hG (el_Fw hc12).2) hc13 rfl he) ?_
      refine ev_a (fun he => ev_istore (ls' := [.ref 193, .int x1, .int x2, .int x3, .int (aI σ (197 + (x2 + 1).toNatClampNeg) x3.toNatClampNeg), d5]) rfl (Nat.le_of_ble_eq_true rfl) rfl he) ?_
      refine ev_a (fun he => ev_aload rfl rfl he) ?_
      refine ev_a (fun he => ev_getR rfl (gr_ob (n := 4) hG rfl) (gr_p (a := 193) (k := 1) (b := 195) hG rfl) he) ?_
      refine ev_a (fun he => ev_iload rfl rfl he) ?_
      obtain ⟨hc14, h⟩ := cO_inv h
      refine ev_a (fun he => ev_aldI (k := x2.toNatClampNeg) rfl (gr_ar hG rfl) hc14 rfl he) ?_
      refine ev_a (fun he => ev_iload rfl rfl he) ?_
      refine ev_b (c := x3 < (aI σ 195 x2.toNatClampNeg)) (fun ht hf => ev_cgt rfl ht hf) (fun hc15 => ?_) (fun hc15 => ?_)
      · rw [if_pos hc15] at h
        refine ev_a (fun he => ev_push rfl he) ?_
        exact TJ_X3_countFewest_100 xs L N k42 (H_X3_countFewest_48 N k42 n) hk42 hk48 x1 x2 x3 (aI σ (197 + (x2 + 1).toNatClampNeg) x3.toNatClampNeg) 1000 (d5) σ q h hG
      · rw [if_neg hc15] at h
        refine ev_a (fun he => ev_aload rfl rfl he) ?_
        refine ev_a (fun he => ev_getR rfl (gr_ob (n := 4) hG rfl) (gr_p (a := 193) (k := 3) (b := 196) hG rfl) he) ?_
        refine ev_a (fun he => ev_iload rfl rfl he) ?_
        refine ev_a (fun he => ev_push rfl he) ?_
        refine ev_a (fun he => ev_bin (z := x2 + 1) rfl rfl he) ?_
        obtain ⟨hc16, h⟩ := cO_inv h
        refine ev_a (fun he => ev_aldR rfl (gr_ar hG rfl) (by decide) hc16 (gr_p hG (el_Fw hc16).1) he) ?_
        refine ev_a (fun he => ev_iload rfl rfl he) ?_
        refine ev_a (fun he => ev_aload rfl rfl he) ?_
        refine ev_a (fun he => ev_getR rfl (gr_ob (n := 4) hG rfl) (gr_p (a := 193) (k := 1) (b := 195) hG rfl) he) ?_
        refine ev_a (fun he => ev_iload rfl rfl he) ?_
        obtain ⟨hc17, h⟩ := cO_inv h
        refine ev_a (fun he => ev_aldI (k := x2.toNatClampNeg) rfl (gr_ar hG rfl) hc17 rfl he) ?_
        refine ev_a (fun he => ev_bin (z := x3 - (aI σ 195 x2.toNatClampNeg)) rfl rfl he) ?_
        obtain ⟨hc18, h⟩ := cO_inv h
        refine ev_a (fun he => ev_aldI (k := (x3 - (aI σ 195 x2.toNatClampNeg)).toNatClampNeg) rfl (gr_ar hG (el_Fw hc16).2) hc18 rfl he) ?_
        refine ev_a (fun he => ev_push rfl he) ?_
        refine ev_a (fun he => ev_bin (z := (aI σ (197 + (x2 + 1).toNatClampNeg) (x3 - (aI σ 195 x2.toNatClampNeg)).toNatClampNeg) + 1) rfl rfl he) ?_
        refine ev_a (fun he => ev_goto rfl he) ?_
        exact TJ_X3_countFewest_100 xs L N k42 (H_X3_countFewest_48 N k42 n) hk42 hk48 x1 x2 x3 (aI σ (197 + (x2 + 1).toNatClampNeg) x3.toNatClampNeg) ((aI σ (197 + (x2 + 1).toNatClampNeg) (x3 - (aI σ 195 x2.toNatClampNeg)).toNatClampNeg) + 1) (d5) σ q h hG
def H_X3_countFewest_42 (N : Nat) : Nat → Int32 → Int32 → aSt → Option (Unit × aSt)
  | 0, _, _, _ => none
  | n + 1, x1, x2, σ => if x2 < 0 then some ((), σ) else H_X3_countFewest_48 N (H_X3_countFewest_42 N n) N x1 x2 0 σ
set_option maxRecDepth 20000 in
set_option maxHeartbeats 4000000 in
theorem TH_X3_countFewest_42 (xs : Nat → Int32) (L : Nat) (N : Nat) : ∀ (n : Nat) (x1 : Int32) (x2 : Int32) (d3 : Value) (d4 : Value) (d5 : Value) (σ : aSt) (q : Unit × aSt), H_X3_countFewest_42 N n x1 x2 σ = some q → Gr σ → Ev xs L 21 42 [.ref 193, .int x1, .int x2, d3, d4, d5] [] σ (wV q.1) q.2 ∧ Gr q.2 := by
  intro n
  induction n with
  | zero =>
    intro x1 x2 d3 d4 d5 σ q h hG
    exact absurd (show (none : Option (Unit × aSt)) = some q from h) (by simp)
  | succ n ih =>
    intro x1 x2 d3 d4 d5 σ q h hG
    have hk42 : ∀ (x1 : Int32) (x2 : Int32) (d3 : Value) (d4 : Value) (d5 : Value) (σ : aSt) (q : Unit × aSt), H_X3_countFewest_42 N n x1 x2 σ = some q → Gr σ → Ev xs L 21 42 [.ref 193, .int x1, .int x2, d3, d4, d5] [] σ (wV q.1) q.2 ∧ Gr q.2 := ih
    have h : (if x2 < 0 then some ((), σ) else H_X3_countFewest_48 N (H_X3_countFewest_42 N n) N x1 x2 0 σ) = some q := h
    refine ev_a (fun he => ev_iload rfl rfl he) ?_
    refine ev_b (c := x2 < 0) (fun ht hf => ev_iflt rfl ht hf) (fun hc19 => ?_) (fun hc19 => ?_)
    · rw [if_pos hc19] at h
      cases h
      exact ⟨ev_retV rfl, hG⟩
    · rw [if_neg hc19] at h
      refine ev_a (fun he => ev_push rfl he) ?_
      refine ev_a (fun he => ev_istore (ls' := [.ref 193, .int x1, .int x2, .int 0, d4, d5]) rfl (Nat.le_of_ble_eq_true rfl) rfl he) ?_
      exact TH_X3_countFewest_48 xs L N (H_X3_countFewest_42 N n) hk42 N x1 x2 0 (d4) (d5) σ q h hG
def J_X3_countFewest_28 (N : Nat) (k2 : Int32 → Int32 → aSt → Option (Unit × aSt)) (x1 : Int32) (x2 : Int32) (s0 : Nat) (s1 : Int32) (s2 : Int32) (σ : aSt) : Option (Unit × aSt) := cO (¬ (s1 < 0 ∨ 61 ≤ s1.toNatClampNeg)) (lt (aWI σ s0 s1.toNatClampNeg s2) fun σ21 => k2 x1 (x2 + 1) σ21)
set_option maxRecDepth 20000 in
set_option maxHeartbeats 4000000 in
theorem TJ_X3_countFewest_28 (xs : Nat → Int32) (L : Nat) (N : Nat) (k2 : Int32 → Int32 → aSt → Option (Unit × aSt)) (hk2 : ∀ (x1 : Int32) (x2 : Int32) (d3 : Value) (d4 : Value) (d5 : Value) (σ : aSt) (q : Unit × aSt), k2 x1 x2 σ = some q → Gr σ → Ev xs L 21 2 [.ref 193, .int x1, .int x2, d3, d4, d5] [] σ (wV q.1) q.2 ∧ Gr q.2) (x1 : Int32) (x2 : Int32) (s0 : Nat) (s1 : Int32) (s2 : Int32) (d3 : Value) (d4 : Value) (d5 : Value) (σ : aSt) (q : Unit × aSt) (h : J_X3_countFewest_28 N k2 x1 x2 s0 s1 s2 σ = some q) (hG : Gr σ) (hs0 : aSHl[s0]? = some (15, 61)) : Ev xs L 21 28 [.ref 193, .int x1, .int x2, d3, d4, d5] [.int s2, .int s1, .ref s0] σ (wV q.1) q.2 ∧ Gr q.2 := by
  have h : (cO (¬ (s1 < 0 ∨ 61 ≤ s1.toNatClampNeg)) (lt (aWI σ s0 s1.toNatClampNeg s2) fun σ21 => k2 x1 (x2 + 1) σ21)) = some q := h
  obtain ⟨hc20, h⟩ := cO_inv h
  obtain ⟨σ21, e22, h⟩ := lt_inv h
  have hG23 : Gr σ21 := gr_wi e22 hG
  refine ev_a (fun he => ev_astI (k := s1.toNatClampNeg) rfl (gr_ar hG hs0) hc20 rfl rfl e22 he) ?_
  refine ev_a (fun he => ev_iinc (ls' := [.ref 193, .int x1, .int (x2 + 1), d3, d4, d5]) rfl rfl rfl (Nat.le_of_ble_eq_true rfl) rfl he) ?_
  refine ev_a (fun he => ev_goto rfl he) ?_
  exact hk2 x1 (x2 + 1) (d3) (d4) (d5) σ21 q h hG23
def H_X3_countFewest_2 (N : Nat) : Nat → Int32 → Int32 → aSt → Option (Unit × aSt)
  | 0, _, _, _ => none
  | n + 1, x1, x2, σ => if x1 < x2 then H_X3_countFewest_42 N N x1 ((aI σ 193 2) - 1) σ else cO (¬ ((aI σ 193 2) < 0 ∨ 25 ≤ (aI σ 193 2).toNatClampNeg)) (if x2 ≠ 0 then J_X3_countFewest_28 N (H_X3_countFewest_2 N n) x1 x2 (197 + (aI σ 193 2).toNatClampNeg) x2 1000 σ else J_X3_countFewest_28 N (H_X3_countFewest_2 N n) x1 x2 (197 + (aI σ 193 2).toNatClampNeg) x2 0 σ)
set_option maxRecDepth 20000 in
set_option maxHeartbeats 4000000 in
theorem TH_X3_countFewest_2 (xs : Nat → Int32) (L : Nat) (N : Nat) : ∀ (n : Nat) (x1 : Int32) (x2 : Int32) (d3 : Value) (d4 : Value) (d5 : Value) (σ : aSt) (q : Unit × aSt), H_X3_countFewest_2 N n x1 x2 σ = some q → Gr σ → Ev xs L 21 2 [.ref 193, .int x1, .int x2, d3, d4, d5] [] σ (wV q.1) q.2 ∧ Gr q.2 := by
  intro n
  induction n with
  | zero =>
    intro x1 x2 d3 d4 d5 σ q h hG
    exact absurd (show (none : Option (Unit × aSt)) = some q from h) (by simp)
  | succ n ih =>
    intro x1 x2 d3 d4 d5 σ q h hG
    have hk2 : ∀ (x1 : Int32) (x2 : Int32) (d3 : Value) (d4 : Value) (d5 : Value) (σ : aSt) (q : Unit × aSt), H_X3_countFewest_2 N n x1 x2 σ = some q → Gr σ → Ev xs L 21 2 [.ref 193, .int x1, .int x2, d3, d4, d5] [] σ (wV q.1) q.2 ∧ Gr q.2 := ih
    have h : (if x1 < x2 then H_X3_countFewest_42 N N x1 ((aI σ 193 2) - 1) σ else cO (¬ ((aI σ 193 2) < 0 ∨ 25 ≤ (aI σ 193 2).toNatClampNeg)) (if x2 ≠ 0 then J_X3_countFewest_28 N (H_X3_countFewest_2 N n) x1 x2 (197 + (aI σ 193 2).toNatClampNeg) x2 1000 σ else J_X3_countFewest_28 N (H_X3_countFewest_2 N n) x1 x2 (197 + (aI σ 193 2).toNatClampNeg) x2 0 σ)) = some q := h
    refine ev_a (fun he => ev_iload rfl rfl he) ?_
    refine ev_a (fun he => ev_iload rfl rfl he) ?_
    refine ev_b (c := x1 < x2) (fun ht hf => ev_cgt rfl ht hf) (fun hc24 => ?_) (fun hc24 => ?_)
    · rw [if_pos hc24] at h
      refine ev_a (fun he => ev_aload rfl rfl he) ?_
      refine ev_a (fun he => ev_getI rfl (gr_ob (n := 4) hG rfl) he) ?_
      refine ev_a (fun he => ev_push rfl he) ?_
      refine ev_a (fun he => ev_bin (z := (aI σ 193 2) - 1) rfl rfl he) ?_
      refine ev_a (fun he => ev_istore (ls' := [.ref 193, .int x1, .int ((aI σ 193 2) - 1), d3, d4, d5]) rfl (Nat.le_of_ble_eq_true rfl) rfl he) ?_
      exact TH_X3_countFewest_42 xs L N N x1 ((aI σ 193 2) - 1) (d3) (d4) (d5) σ q h hG
    · rw [if_neg hc24] at h
      refine ev_a (fun he => ev_aload rfl rfl he) ?_
      refine ev_a (fun he => ev_getR rfl (gr_ob (n := 4) hG rfl) (gr_p (a := 193) (k := 3) (b := 196) hG rfl) he) ?_
      refine ev_a (fun he => ev_aload rfl rfl he) ?_
      refine ev_a (fun he => ev_getI rfl (gr_ob (n := 4) hG rfl) he) ?_
      obtain ⟨hc25, h⟩ := cO_inv h
      refine ev_a (fun he => ev_aldR rfl (gr_ar hG rfl) (by decide) hc25 (gr_p hG (el_Fw hc25).1) he) ?_
      refine ev_a (fun he => ev_iload rfl rfl he) ?_
      refine ev_a (fun he => ev_iload rfl rfl he) ?_
      refine ev_b (c := x2 ≠ 0) (fun ht hf => ev_ifne rfl ht hf) (fun hc26 => ?_) (fun hc26 => ?_)
      · rw [if_pos hc26] at h
        refine ev_a (fun he => ev_push rfl he) ?_
        exact TJ_X3_countFewest_28 xs L N (H_X3_countFewest_2 N n) hk2 x1 x2 (197 + (aI σ 193 2).toNatClampNeg) x2 1000 (d3) (d4) (d5) σ q h hG (el_Fw hc25).2
      · rw [if_neg hc26] at h
        refine ev_a (fun he => ev_push rfl he) ?_
        refine ev_a (fun he => ev_goto rfl he) ?_
        exact TJ_X3_countFewest_28 xs L N (H_X3_countFewest_2 N n) hk2 x1 x2 (197 + (aI σ 193 2).toNatClampNeg) x2 0 (d3) (d4) (d5) σ q h hG (el_Fw hc25).2
def F_X3_countFewest (N : Nat) (x1 : Int32) (σ : aSt) : Option (Unit × aSt) := H_X3_countFewest_2 N N x1 0 σ
set_option maxRecDepth 20000 in
set_option maxHeartbeats 4000000 in
theorem T_X3_countFewest (xs : Nat → Int32) (L : Nat) (N : Nat) (x1 : Int32) (σ : aSt) (q : Unit × aSt) (h : F_X3_countFewest N x1 σ = some q) (hG : Gr σ) : Cal xs L 21 [.ref 193, .int x1] σ (wV q.1) q.2 ∧ Gr q.2 := by
  have h : (H_X3_countFewest_2 N N x1 0 σ) = some q := h
  show Ev xs L 21 0 [.ref 193, .int x1, aU, aU, aU, aU] [] σ (wV q.1) q.2 ∧ Gr q.2
  refine ev_a (fun he => ev_push rfl he) ?_
  refine ev_a (fun he => ev_istore (ls' := [.ref 193, .int x1, .int 0, aU, aU, aU]) rfl (Nat.le_of_ble_eq_true rfl) rfl he) ?_
  exact TH_X3_countFewest_2 xs L N N x1 0 (aU) (aU) (aU) σ q h hG
def F_X4_empty (N : Nat) (x0 : Nat) (σ : aSt) : Option (Unit × aSt) := lt (aWI σ x0 3 0) fun σ1 => lt (aWI σ1 x0 5 0) fun σ4 => some ((), σ4)
set_option maxRecDepth 20000 in
set_option maxHeartbeats 4000000 in
theorem T_X4_empty (xs : Nat → Int32) (L : Nat) (N : Nat) (x0 : Nat) (σ : aSt) (q : Unit × aSt) (h : F_X4_empty N x0 σ = some q) (hG : Gr σ) (hx0 : isLy x0) : Cal xs L 25 [.ref x0] σ (wV q.1) q.2 ∧ Gr q.2 := by
  have h : (lt (aWI σ x0 3 0) fun σ1 => lt (aWI σ1 x0 5 0) fun σ4 => some ((), σ4)) = some q := h
  show Ev xs L 25 0 [.ref x0] [] σ (wV q.1) q.2 ∧ Gr q.2
  refine ev_a (fun he => ev_aload rfl rfl he) ?_
  refine ev_a (fun he => ev_push rfl he) ?_
  obtain ⟨σ1, e2, h⟩ := lt_inv h
  have hG3 : Gr σ1 := gr_wi e2 hG
  refine ev_a (fun he => ev_putI rfl (gr_ob (n := 6) hG (sh_Ly0 hx0)) e2 he) ?_
  refine ev_a (fun he => ev_aload rfl rfl he) ?_
  refine ev_a (fun he => ev_push rfl he) ?_
  obtain ⟨σ4, e5, h⟩ := lt_inv h
  have hG6 : Gr σ4 := gr_wi e5 hG3
  refine ev_a (fun he => ev_putI rfl (gr_ob (n := 6) hG3 (sh_Ly0 hx0)) e5 he) ?_
  cases h
  exact ⟨ev_retV rfl, hG6⟩
def J_X3_mostBoxes_25 (N : Nat) (k4 : Int32 → Int32 → Int32 → aSt → Option (Int32 × aSt)) (x1 : Int32) (x2 : Int32) (x3 : Int32) (σ : aSt) : Option (Int32 × aSt) := k4 x1 x2 (x3 + 1) σ
set_option maxRecDepth 20000 in
set_option maxHeartbeats 4000000 in
theorem TJ_X3_mostBoxes_25 (xs : Nat → Int32) (L : Nat) (N : Nat) (k4 : Int32 → Int32 → Int32 → aSt → Option (Int32 × aSt)) (hk4 : ∀ (x1 : Int32) (x2 : Int32) (x3 : Int32) (σ : aSt) (q : Int32 × aSt), k4 x1 x2 x3 σ = some q → Gr σ → Ev xs L 22 4 [.ref 193, .int x1, .int x2, .int x3] [] σ (wI q.1) q.2 ∧ Gr q.2) (x1 : Int32) (x2 : Int32) (x3 : Int32) (σ : aSt) (q : Int32 × aSt) (h : J_X3_mostBoxes_25 N k4 x1 x2 x3 σ = some q) (hG : Gr σ) : Ev xs L 22 25 [.ref 193, .int x1, .int x2, .int x3] [] σ (wI q.1) q.2 ∧ Gr q.2 := by
  have h : (k4 x1 x2 (x3 + 1) σ) = some q := h
  refine ev_a (fun he => ev_iinc (ls' := [.ref 193, .int x1, .int x2, .int (x3 + 1)]) rfl rfl rfl (Nat.le_of_ble_eq_true rfl) rfl he) ?_
  refine ev_a (fun he => ev_goto rfl he) ?_
  exact hk4 x1 x2 (x3 + 1) σ q h hG
def H_X3_mostBoxes_4 (N : Nat) : Nat → Int32 → Int32 → Int32 → aSt → Option (Int32 × aSt)
  | 0, _, _, _, _ => none
  | n + 1, x1, x2, x3, σ => if x1 < x3 then some (x2, σ) else cO (¬ (x3 < 0 ∨ 61 ≤ x3.toNatClampNeg)) (if 1000 ≤ (aI σ 197 x3.toNatClampNeg) then J_X3_mostBoxes_25 N (H_X3_mostBoxes_4 N n) x1 x2 x3 σ else J_X3_mostBoxes_25 N (H_X3_mostBoxes_4 N n) x1 x3 x3 σ)
set_option maxRecDepth 20000 in
set_option maxHeartbeats 4000000 in
theorem TH_X3_mostBoxes_4 (xs : Nat → Int32) (L : Nat) (N : Nat) : ∀ (n : Nat) (x1 : Int32) (x2 : Int32) (x3 : Int32) (σ : aSt) (q : Int32 × aSt), H_X3_mostBoxes_4 N n x1 x2 x3 σ = some q → Gr σ → Ev xs L 22 4 [.ref 193, .int x1, .int x2, .int x3] [] σ (wI q.1) q.2 ∧ Gr q.2 := by
  intro n
  induction n with
  | zero =>
    intro x1 x2 x3 σ q h hG
    exact absurd (show (none : Option (Int32 × aSt)) = some q from h) (by simp)
  | succ n ih =>
    intro x1 x2 x3 σ q h hG
    have hk4 : ∀ (x1 : Int32) (x2 : Int32) (x3 : Int32) (σ : aSt) (q : Int32 × aSt), H_X3_mostBoxes_4 N n x1 x2 x3 σ = some q → Gr σ → Ev xs L 22 4 [.ref 193, .int x1, .int x2, .int x3] [] σ (wI q.1) q.2 ∧ Gr q.2 := ih
    have h : (if x1 < x3 then some (x2, σ) else cO (¬ (x3 < 0 ∨ 61 ≤ x3.toNatClampNeg)) (if 1000 ≤ (aI σ 197 x3.toNatClampNeg) then J_X3_mostBoxes_25 N (H_X3_mostBoxes_4 N n) x1 x2 x3 σ else J_X3_mostBoxes_25 N (H_X3_mostBoxes_4 N n) x1 x3 x3 σ)) = some q := h
    refine ev_a (fun he => ev_iload rfl rfl he) ?_
    refine ev_a (fun he => ev_iload rfl rfl he) ?_
    refine ev_b (c := x1 < x3) (fun ht hf => ev_cgt rfl ht hf) (fun hc1 => ?_) (fun hc1 => ?_)
    · rw [if_pos hc1] at h
      refine ev_a (fun he => ev_iload rfl rfl he) ?_
      cases h
      exact ⟨ev_retI rfl, hG⟩
    · rw [if_neg hc1] at h
      refine ev_a (fun he => ev_aload rfl rfl he) ?_
      refine ev_a (fun he => ev_getR rfl (gr_ob (n := 4) hG rfl) (gr_p (a := 193) (k := 3) (b := 196) hG rfl) he) ?_
      refine ev_a (fun he => ev_push rfl he) ?_
      refine ev_a (fun he => ev_aldR (b := 197) rfl (gr_ar hG rfl) (by decide) (by decide) (gr_p hG rfl) he) ?_
      refine ev_a (fun he => ev_iload rfl rfl he) ?_
      obtain ⟨hc2, h⟩ := cO_inv h
      refine ev_a (fun he => ev_aldI (k := x3.toNatClampNeg) rfl (gr_ar hG rfl) hc2 rfl he) ?_
      refine ev_a (fun he => ev_push rfl he) ?_
      refine ev_b (c := 1000 ≤ (aI σ 197 x3.toNatClampNeg)) (fun ht hf => ev_cge rfl ht hf) (fun hc3 => ?_) (fun hc3 => ?_)
      · rw [if_pos hc3] at h
        exact TJ_X3_mostBoxes_25 xs L N (H_X3_mostBoxes_4 N n) hk4 x1 x2 x3 σ q h hG
      · rw [if_neg hc3] at h
        refine ev_a (fun he => ev_iload rfl rfl he) ?_
        refine ev_a (fun he => ev_istore (ls' := [.ref 193, .int x1, .int x3, .int x3]) rfl (Nat.le_of_ble_eq_true rfl) rfl he) ?_
        exact TJ_X3_mostBoxes_25 xs L N (H_X3_mostBoxes_4 N n) hk4 x1 x3 x3 σ q h hG
def F_X3_mostBoxes (N : Nat) (x1 : Int32) (σ : aSt) : Option (Int32 × aSt) := H_X3_mostBoxes_4 N N x1 0 1 σ
set_option maxRecDepth 20000 in
set_option maxHeartbeats 4000000 in
theorem T_X3_mostBoxes (xs : Nat → Int32) (L : Nat) (N : Nat) (x1 : Int32) (σ : aSt) (q : Int32 × aSt) (h : F_X3_mostBoxes N x1 σ = some q) (hG : Gr σ) : Cal xs L 22 [.ref 193, .int x1] σ (wI q.1) q.2 ∧ Gr q.2 := by
  have h : (H_X3_mostBoxes_4 N N x1 0 1 σ) = some q := h
  show Ev xs L 22 0 [.ref 193, .int x1, aU, aU] [] σ (wI q.1) q.2 ∧ Gr q.2
  refine ev_a (fun he => ev_push rfl he) ?_
  refine ev_a (fun he => ev_istore (ls' := [.ref 193, .int x1, .int 0, aU]) rfl (Nat.le_of_ble_eq_true rfl) rfl he) ?_
  refine ev_a (fun he => ev_push rfl he) ?_
  refine ev_a (fun he => ev_istore (ls' := [.ref 193, .int x1, .int 0, .int 1]) rfl (Nat.le_of_ble_eq_true rfl) rfl he) ?_
  exact TH_X3_mostBoxes_4 xs L N N x1 0 1 σ q h hG
def J_X4_put_39 (N : Nat) (σ : aSt) : Option (Unit × aSt) := some ((), σ)
set_option maxRecDepth 20000 in
set_option maxHeartbeats 4000000 in
theorem TJ_X4_put_39 (xs : Nat → Int32) (L : Nat) (N : Nat) (d0 : Value) (d1 : Value) (d2 : Value) (σ : aSt) (q : Unit × aSt) (h : J_X4_put_39 N  σ = some q) (hG : Gr σ) : Ev xs L 26 39 [d0, d1, d2] [] σ (wV q.1) q.2 ∧ Gr q.2 := by
  have h : (some ((), σ)) = some q := h
  cases h
  exact ⟨ev_retV rfl, hG⟩
def F_X4_put (N : Nat) (x0 : Nat) (x1 : Int32) (x2 : Int32) (σ : aSt) : Option (Unit × aSt) := if 24 ≤ (aI σ x0 5) then J_X4_put_39 N σ else cO (¬ ((aI σ x0 5) < 0 ∨ 24 ≤ (aI σ x0 5).toNatClampNeg)) (lt (aWI σ (x0 + 1) (aI σ x0 5).toNatClampNeg x1) fun σ3 => lt (aWI σ3 x0 5 ((aI σ3 x0 5) + 1)) fun σ6 => lt (aWI σ6 x0 3 ((aI σ6 x0 3) + x2)) fun σ9 => J_X4_put_39 N σ9)
set_option maxRecDepth 20000 in
set_option maxHeartbeats 4000000 in
theorem T_X4_put (xs : Nat → Int32) (L : Nat) (N : Nat) (x0 : Nat) (x1 : Int32) (x2 : Int32) (σ : aSt) (q : Unit × aSt) (h : F_X4_put N x0 x1 x2 σ = some q) (hG : Gr σ) (hx0 : isLy x0) : Cal xs L 26 [.ref x0, .int x1, .int x2] σ (wV q.1) q.2 ∧ Gr q.2 := by
  have h : (if 24 ≤ (aI σ x0 5) then J_X4_put_39 N σ else cO (¬ ((aI σ x0 5) < 0 ∨ 24 ≤ (aI σ x0 5).toNatClampNeg)) (lt (aWI σ (x0 + 1) (aI σ x0 5).toNatClampNeg x1) fun σ3 => lt (aWI σ3 x0 5 ((aI σ3 x0 5) + 1)) fun σ6 => lt (aWI σ6 x0 3 ((aI σ6 x0 3) + x2)) fun σ9 => J_X4_put_39 N σ9)) = some q := h
  show Ev xs L 26 0 [.ref x0, .int x1, .int x2] [] σ (wV q.1) q.2 ∧ Gr q.2
  refine ev_a (fun he => ev_aload rfl rfl he) ?_
  refine ev_a (fun he => ev_getI rfl (gr_ob (n := 6) hG (sh_Ly0 hx0)) he) ?_
  refine ev_a (fun he => ev_push rfl he) ?_
  refine ev_b (c := 24 ≤ (aI σ x0 5)) (fun ht hf => ev_cge rfl ht hf) (fun hc1 => ?_) (fun hc1 => ?_)
  · rw [if_pos hc1] at h
    exact TJ_X4_put_39 xs L N (.ref x0) (.int x1) (.int x2) σ q h hG
  · rw [if_neg hc1] at h
    refine ev_a (fun he => ev_aload rfl rfl he) ?_
    refine ev_a (fun he => ev_getR rfl (gr_ob (n := 6) hG (sh_Ly0 hx0)) (gr_p hG (gf_Ly4 hx0)) he) ?_
    refine ev_a (fun he => ev_aload rfl rfl he) ?_
    refine ev_a (fun he => ev_getI rfl (gr_ob (n := 6) hG (sh_Ly0 hx0)) he) ?_
    refine ev_a (fun he => ev_iload rfl rfl he) ?_
    obtain ⟨hc2, h⟩ := cO_inv h
    obtain ⟨σ3, e4, h⟩ := lt_inv h
    have hG5 : Gr σ3 := gr_wi e4 hG
    refine ev_a (fun he => ev_astI (k := (aI σ x0 5).toNatClampNeg) rfl (gr_ar hG (sh_Ly1 hx0)) hc2 rfl rfl e4 he) ?_
    refine ev_a (fun he => ev_aload rfl rfl he) ?_
    refine ev_a (fun he => ev_dupR rfl he) ?_
    refine ev_a (fun he => ev_getI rfl (gr_ob (n := 6) hG5 (sh_Ly0 hx0)) he) ?_
    refine ev_a (fun he => ev_push rfl he) ?_
    refine ev_a (fun he => ev_bin (z := (aI σ3 x0 5) + 1) rfl rfl he) ?_
    obtain ⟨σ6, e7, h⟩ := lt_inv h
    have hG8 : Gr σ6 := gr_wi e7 hG5
    refine ev_a (fun he => ev_putI rfl (gr_ob (n := 6) hG5 (sh_Ly0 hx0)) e7 he) ?_
    refine ev_a (fun he => ev_aload rfl rfl he) ?_
    refine ev_a (fun he => ev_dupR rfl he) ?_
    refine ev_a (fun he => ev_getI rfl (gr_ob (n := 6) hG8 (sh_Ly0 hx0)) he) ?_
    refine ev_a (fun he => ev_iload rfl rfl he) ?_
    refine ev_a (fun he => ev_bin (z := (aI σ6 x0 3) + x2) rfl rfl he) ?_
    obtain ⟨σ9, e10, h⟩ := lt_inv h
    have hG11 : Gr σ9 := gr_wi e10 hG8
    refine ev_a (fun he => ev_putI rfl (gr_ob (n := 6) hG8 (sh_Ly0 hx0)) e10 he) ?_
    exact TJ_X4_put_39 xs L N (.ref x0) (.int x1) (.int x2) σ9 q h hG11
