def J_X12_cut_291 (N : Nat) (k7 : Int32 → aSt → Option (Unit × aSt)) (x1 : Int32) (σ : aSt) : Option (Unit × aSt) := k7 x1 σ
set_option maxRecDepth 20000 in
set_option maxHeartbeats 4000000 in
theorem TJ_X12_cut_291 (xs : Nat → Int32) (L : Nat) (N : Nat) (k7 : Int32 → aSt → Option (Unit × aSt)) (hk7 : ∀ (x1 : Int32) (d2 : Value) (d3 : Value) (d4 : Value) (d5 : Value) (d6 : Value) (d7 : Value) (σ : aSt) (q : Unit × aSt), k7 x1 σ = some q → Gr σ → Ev xs L 127 7 [.ref 235, .int x1, d2, d3, d4, d5, d6, d7] [] σ (wV q.1) q.2 ∧ Gr q.2) (x1 : Int32) (d2 : Value) (d3 : Value) (d4 : Value) (d5 : Value) (d6 : Value) (d7 : Value) (σ : aSt) (q : Unit × aSt) (h : J_X12_cut_291 N k7 x1 σ = some q) (hG : Gr σ) : Ev xs L 127 291 [.ref 235, .int x1, d2, d3, d4, d5, d6, d7] [] σ (wV q.1) q.2 ∧ Gr q.2 := by
  have h : (k7 x1 σ) = some q := h
  refine ev_a (fun he => ev_goto rfl he) ?_
  exact hk7 x1 (d2) (d3) (d4) (d5) (d6) (d7) σ q h hG
def J_X12_cut_67 (N : Nat) (k7 : Int32 → aSt → Option (Unit × aSt)) (x1 : Int32) (σ : aSt) : Option (Unit × aSt) := J_X12_cut_291 N k7 (x1 + 1) σ
set_option maxRecDepth 20000 in
set_option maxHeartbeats 4000000 in
theorem TJ_X12_cut_67 (xs : Nat → Int32) (L : Nat) (N : Nat) (k7 : Int32 → aSt → Option (Unit × aSt)) (hk7 : ∀ (x1 : Int32) (d2 : Value) (d3 : Value) (d4 : Value) (d5 : Value) (d6 : Value) (d7 : Value) (σ : aSt) (q : Unit × aSt), k7 x1 σ = some q → Gr σ → Ev xs L 127 7 [.ref 235, .int x1, d2, d3, d4, d5, d6, d7] [] σ (wV q.1) q.2 ∧ Gr q.2) (x1 : Int32) (d2 : Value) (d3 : Value) (d4 : Value) (d5 : Value) (d6 : Value) (d7 : Value) (σ : aSt) (q : Unit × aSt) (h : J_X12_cut_67 N k7 x1 σ = some q) (hG : Gr σ) : Ev xs L 127 67 [.ref 235, .int x1, d2, d3, d4, d5, d6, d7] [] σ (wV q.1) q.2 ∧ Gr q.2 := by
  have h : (J_X12_cut_291 N k7 (x1 + 1) σ) = some q := h
  refine ev_a (fun he => ev_iinc (ls' := [.ref 235, .int (x1 + 1), d2, d3, d4, d5, d6, d7]) rfl rfl rfl (Nat.le_of_ble_eq_true rfl) rfl he) ?_
  refine ev_a (fun he => ev_goto rfl he) ?_
  exact TJ_X12_cut_291 xs L N k7 hk7 (x1 + 1) (d2) (d3) (d4) (d5) (d6) (d7) σ q h hG
def J_X12_cut_261 (N : Nat) (k7 : Int32 → aSt → Option (Unit × aSt)) (x1 : Int32) (x3 : Int32) (x4 : Int32) (s1 : Int32) (σ : aSt) : Option (Unit × aSt) := oB (F_X12_token N s1 x1 x4 0 σ) fun y1 σ2 => J_X12_cut_291 N k7 (x1 + x3) σ2
set_option maxRecDepth 20000 in
set_option maxHeartbeats 4000000 in
theorem TJ_X12_cut_261 (xs : Nat → Int32) (L : Nat) (N : Nat) (k7 : Int32 → aSt → Option (Unit × aSt)) (hk7 : ∀ (x1 : Int32) (d2 : Value) (d3 : Value) (d4 : Value) (d5 : Value) (d6 : Value) (d7 : Value) (σ : aSt) (q : Unit × aSt), k7 x1 σ = some q → Gr σ → Ev xs L 127 7 [.ref 235, .int x1, d2, d3, d4, d5, d6, d7] [] σ (wV q.1) q.2 ∧ Gr q.2) (x1 : Int32) (x3 : Int32) (x4 : Int32) (s1 : Int32) (d2 : Value) (d5 : Value) (d6 : Value) (d7 : Value) (σ : aSt) (q : Unit × aSt) (h : J_X12_cut_261 N k7 x1 x3 x4 s1 σ = some q) (hG : Gr σ) : Ev xs L 127 261 [.ref 235, .int x1, d2, .int x3, .int x4, d5, d6, d7] [.int s1, .ref 235] σ (wV q.1) q.2 ∧ Gr q.2 := by
  have h : (oB (F_X12_token N s1 x1 x4 0 σ) fun y1 σ2 => J_X12_cut_291 N k7 (x1 + x3) σ2) = some q := h
  refine ev_a (fun he => ev_iload rfl rfl he) ?_
  refine ev_a (fun he => ev_iload rfl rfl he) ?_
  refine ev_a (fun he => ev_push rfl he) ?_
  obtain ⟨y1, σ2, h3, h⟩ := oB_inv h
  obtain ⟨c4, hG5⟩ := T_X12_token xs L N s1 x1 x4 0 σ (y1, σ2) h3 hG
  refine ev_a (fun he => ev_callV (as := [.int s1, .int x1, .int x4, .long 0]) rfl (gr_ob (n := 80) hG rfl) rfl rfl rfl (Nat.le_of_ble_eq_true rfl) (Nat.le_of_ble_eq_true rfl) c4 he) ?_
  refine ev_a (fun he => ev_iload rfl rfl he) ?_
  refine ev_a (fun he => ev_iload rfl rfl he) ?_
  refine ev_a (fun he => ev_bin (z := x1 + x3) rfl rfl he) ?_
  refine ev_a (fun he => ev_istore (ls' := [.ref 235, .int (x1 + x3), d2, .int x3, .int x4, d5, d6, d7]) rfl (Nat.le_of_ble_eq_true rfl) rfl he) ?_
  refine ev_a (fun he => ev_goto rfl he) ?_
  exact TJ_X12_cut_291 xs L N k7 hk7 (x1 + x3) (d2) (.int x3) (.int x4) (d5) (d6) (d7) σ2 q h hG5
def J_X12_cut_244 (N : Nat) (k7 : Int32 → aSt → Option (Unit × aSt)) (k208 : Int32 → Int32 → Int32 → aSt → Option (Unit × aSt)) (x1 : Int32) (x3 : Int32) (x4 : Int32) (σ : aSt) : Option (Unit × aSt) := k208 x1 (x3 + 1) x4 σ
set_option maxRecDepth 20000 in
set_option maxHeartbeats 4000000 in
theorem TJ_X12_cut_244 (xs : Nat → Int32) (L : Nat) (N : Nat) (k7 : Int32 → aSt → Option (Unit × aSt)) (k208 : Int32 → Int32 → Int32 → aSt → Option (Unit × aSt)) (hk7 : ∀ (x1 : Int32) (d2 : Value) (d3 : Value) (d4 : Value) (d5 : Value) (d6 : Value) (d7 : Value) (σ : aSt) (q : Unit × aSt), k7 x1 σ = some q → Gr σ → Ev xs L 127 7 [.ref 235, .int x1, d2, d3, d4, d5, d6, d7] [] σ (wV q.1) q.2 ∧ Gr q.2) (hk208 : ∀ (x1 : Int32) (x3 : Int32) (x4 : Int32) (d2 : Value) (d5 : Value) (d6 : Value) (d7 : Value) (σ : aSt) (q : Unit × aSt), k208 x1 x3 x4 σ = some q → Gr σ → Ev xs L 127 208 [.ref 235, .int x1, d2, .int x3, .int x4, d5, d6, d7] [] σ (wV q.1) q.2 ∧ Gr q.2) (x1 : Int32) (x3 : Int32) (x4 : Int32) (d2 : Value) (d5 : Value) (d6 : Value) (d7 : Value) (σ : aSt) (q : Unit × aSt) (h : J_X12_cut_244 N k7 k208 x1 x3 x4 σ = some q) (hG : Gr σ) : Ev xs L 127 244 [.ref 235, .int x1, d2, .int x3, .int x4, d5, d6, d7] [] σ (wV q.1) q.2 ∧ Gr q.2 := by
  have h : (k208 x1 (x3 + 1) x4 σ) = some q := h
  refine ev_a (fun he => ev_iinc (ls' := [.ref 235, .int x1, (aKl d2), .int (x3 + 1), .int x4, d5, d6, d7]) rfl rfl rfl (Nat.le_of_ble_eq_true rfl) rfl he) ?_
  refine ev_a (fun he => ev_goto rfl he) ?_
  exact hk208 x1 (x3 + 1) x4 ((aKl d2)) (d5) (d6) (d7) σ q h hG
def H_X12_cut_208 (N : Nat) (k7 : Int32 → aSt → Option (Unit × aSt)) : Nat → Int32 → Int32 → Int32 → aSt → Option (Unit × aSt)
  | 0, _, _, _, _ => none
  | n + 1, x1, x3, x4, σ => oB (F_X12_at N (x1 + x3) σ) fun y6 σ7 => oB (F_X12_isDigit N y6 σ7) fun y11 σ12 => if y11 = 0 then if x3 ≤ 4 then J_X12_cut_261 N k7 x1 x3 x4 2 σ12 else J_X12_cut_261 N k7 x1 x3 x4 3 σ12 else if 4 ≤ x3 then J_X12_cut_244 N k7 (H_X12_cut_208 N k7 n) x1 x3 x4 σ12 else oB (F_X12_at N (x1 + x3) σ12) fun y19 σ20 => J_X12_cut_244 N k7 (H_X12_cut_208 N k7 n) x1 x3 (((10 * x4) + y19) - 48) σ20
set_option maxRecDepth 20000 in
set_option maxHeartbeats 4000000 in
theorem TH_X12_cut_208 (xs : Nat → Int32) (L : Nat) (N : Nat) (k7 : Int32 → aSt → Option (Unit × aSt)) (hk7 : ∀ (x1 : Int32) (d2 : Value) (d3 : Value) (d4 : Value) (d5 : Value) (d6 : Value) (d7 : Value) (σ : aSt) (q : Unit × aSt), k7 x1 σ = some q → Gr σ → Ev xs L 127 7 [.ref 235, .int x1, d2, d3, d4, d5, d6, d7] [] σ (wV q.1) q.2 ∧ Gr q.2) : ∀ (n : Nat) (x1 : Int32) (x3 : Int32) (x4 : Int32) (d2 : Value) (d5 : Value) (d6 : Value) (d7 : Value) (σ : aSt) (q : Unit × aSt), H_X12_cut_208 N k7 n x1 x3 x4 σ = some q → Gr σ → Ev xs L 127 208 [.ref 235, .int x1, d2, .int x3, .int x4, d5, d6, d7] [] σ (wV q.1) q.2 ∧ Gr q.2 := by
  intro n
  induction n with
  | zero =>
    intro x1 x3 x4 d2 d5 d6 d7 σ q h hG
    exact absurd (show (none : Option (Unit × aSt)) = some q from h) (by simp)
  | succ n ih =>
    intro x1 x3 x4 d2 d5 d6 d7 σ q h hG
    have hk208 : ∀ (x1 : Int32) (x3 : Int32) (x4 : Int32) (d2 : Value) (d5 : Value) (d6 : Value) (d7 : Value) (σ : aSt) (q : Unit × aSt), H_X12_cut_208 N k7 n x1 x3 x4 σ = some q → Gr σ → Ev xs L 127 208 [.ref 235, .int x1, d2, .int x3, .int x4, d5, d6, d7] [] σ (wV q.1) q.2 ∧ Gr q.2 := ih
    have h : (oB (F_X12_at N (x1 + x3) σ) fun y6 σ7 => oB (F_X12_isDigit N y6 σ7) fun y11 σ12 => if y11 = 0 then if x3 ≤ 4 then J_X12_cut_261 N k7 x1 x3 x4 2 σ12 else J_X12_cut_261 N k7 x1 x3 x4 3 σ12 else if 4 ≤ x3 then J_X12_cut_244 N k7 (H_X12_cut_208 N k7 n) x1 x3 x4 σ12 else oB (F_X12_at N (x1 + x3) σ12) fun y19 σ20 => J_X12_cut_244 N k7 (H_X12_cut_208 N k7 n) x1 x3 (((10 * x4) + y19) - 48) σ20) = some q := h
    refine ev_a (fun he => ev_aload rfl rfl he) ?_
    refine ev_a (fun he => ev_iload rfl rfl he) ?_
    refine ev_a (fun he => ev_iload rfl rfl he) ?_
    refine ev_a (fun he => ev_bin (z := x1 + x3) rfl rfl he) ?_
    obtain ⟨y6, σ7, h8, h⟩ := oB_inv h
    obtain ⟨c9, hG10⟩ := T_X12_at xs L N (x1 + x3) σ (y6, σ7) h8 hG
    refine ev_a (fun he => ev_callV (as := [.int (x1 + x3)]) rfl (gr_ob (n := 80) hG rfl) rfl rfl rfl (Nat.le_of_ble_eq_true rfl) (Nat.le_of_ble_eq_true rfl) c9 he) ?_
    obtain ⟨y11, σ12, h13, h⟩ := oB_inv h
    obtain ⟨c14, hG15⟩ := T_X12_isDigit xs L N y6 σ7 (y11, σ12) h13 hG10
    refine ev_a (fun he => ev_callS (as := [.int y6]) rfl rfl rfl rfl (Nat.le_of_ble_eq_true rfl) (Nat.le_of_ble_eq_true rfl) c14 he) ?_
    refine ev_b (c := y11 = 0) (fun ht hf => ev_ifeq rfl ht hf) (fun hc16 => ?_) (fun hc16 => ?_)
    · rw [if_pos hc16] at h
      refine ev_a (fun he => ev_aload rfl rfl he) ?_
      refine ev_a (fun he => ev_iload rfl rfl he) ?_
      refine ev_a (fun he => ev_push rfl he) ?_
      refine ev_b (c := x3 ≤ 4) (fun ht hf => ev_cle rfl ht hf) (fun hc17 => ?_) (fun hc17 => ?_)
      · rw [if_pos hc17] at h
        refine ev_a (fun he => ev_push rfl he) ?_
        exact TJ_X12_cut_261 xs L N k7 hk7 x1 x3 x4 2 (d2) (d5) (d6) (d7) σ12 q h hG15
      · rw [if_neg hc17] at h
        refine ev_a (fun he => ev_push rfl he) ?_
        refine ev_a (fun he => ev_goto rfl he) ?_
        exact TJ_X12_cut_261 xs L N k7 hk7 x1 x3 x4 3 (d2) (d5) (d6) (d7) σ12 q h hG15
    · rw [if_neg hc16] at h
      refine ev_a (fun he => ev_iload rfl rfl he) ?_
      refine ev_a (fun he => ev_push rfl he) ?_
      refine ev_b (c := 4 ≤ x3) (fun ht hf => ev_cge rfl ht hf) (fun hc18 => ?_) (fun hc18 => ?_)
      · rw [if_pos hc18] at h
        exact TJ_X12_cut_244 xs L N k7 (H_X12_cut_208 N k7 n) hk7 hk208 x1 x3 x4 (d2) (d5) (d6) (d7) σ12 q h hG15
      · rw [if_neg hc18] at h
        refine ev_a (fun he => ev_push rfl he) ?_
        refine ev_a (fun he => ev_iload rfl rfl he) ?_
        refine ev_a (fun he => ev_bin (z := 10 * x4) rfl rfl he) ?_
        refine ev_a (fun he => ev_aload rfl rfl he) ?_
        refine ev_a (fun he => ev_iload rfl rfl he) ?_
        refine ev_a (fun he => ev_iload rfl rfl he) ?_
        refine ev_a (fun he => ev_bin (z := x1 + x3) rfl rfl he) ?_
        obtain ⟨y19, σ20, h21, h⟩ := oB_inv h
        obtain ⟨c22, hG23⟩ := T_X12_at xs L N (x1 + x3) σ12 (y19, σ20) h21 hG15
        refine ev_a (fun he => ev_callV (as := [.int (x1 + x3)]) rfl (gr_ob (n := 80) hG15 rfl) rfl rfl rfl (Nat.le_of_ble_eq_true rfl) (Nat.le_of_ble_eq_true rfl) c22 he) ?_
        refine ev_a (fun he => ev_bin (z := (10 * x4) + y19) rfl rfl he) ?_
        refine ev_a (fun he => ev_push rfl he) ?_
        refine ev_a (fun he => ev_bin (z := ((10 * x4) + y19) - 48) rfl rfl he) ?_
        refine ev_a (fun he => ev_istore (ls' := [.ref 235, .int x1, d2, .int x3, .int (((10 * x4) + y19) - 48), d5, d6, d7]) rfl (Nat.le_of_ble_eq_true rfl) rfl he) ?_
        exact TJ_X12_cut_244 xs L N k7 (H_X12_cut_208 N k7 n) hk7 hk208 x1 x3 (((10 * x4) + y19) - 48) (d2) (d5) (d6) (d7) σ20 q h hG23
def J_X12_cut_179 (N : Nat) (k7 : Int32 → aSt → Option (Unit × aSt)) (x1 : Int32) (x3 : Int32) (x4 : Int64) (x6 : Int32) (σ : aSt) : Option (Unit × aSt) := oB (F_X12_token N x6 x1 0 x4 σ) fun y24 σ25 => J_X12_cut_291 N k7 (x1 + x3) σ25
set_option maxRecDepth 20000 in
set_option maxHeartbeats 4000000 in
theorem TJ_X12_cut_179 (xs : Nat → Int32) (L : Nat) (N : Nat) (k7 : Int32 → aSt → Option (Unit × aSt)) (hk7 : ∀ (x1 : Int32) (d2 : Value) (d3 : Value) (d4 : Value) (d5 : Value) (d6 : Value) (d7 : Value) (σ : aSt) (q : Unit × aSt), k7 x1 σ = some q → Gr σ → Ev xs L 127 7 [.ref 235, .int x1, d2, d3, d4, d5, d6, d7] [] σ (wV q.1) q.2 ∧ Gr q.2) (x1 : Int32) (x3 : Int32) (x4 : Int64) (x6 : Int32) (d2 : Value) (d5 : Value) (d7 : Value) (σ : aSt) (q : Unit × aSt) (h : J_X12_cut_179 N k7 x1 x3 x4 x6 σ = some q) (hG : Gr σ) : Ev xs L 127 179 [.ref 235, .int x1, d2, .int x3, .long x4, d5, .int x6, d7] [] σ (wV q.1) q.2 ∧ Gr q.2 := by
  have h : (oB (F_X12_token N x6 x1 0 x4 σ) fun y24 σ25 => J_X12_cut_291 N k7 (x1 + x3) σ25) = some q := h
  refine ev_a (fun he => ev_aload rfl rfl he) ?_
  refine ev_a (fun he => ev_iload rfl rfl he) ?_
  refine ev_a (fun he => ev_iload rfl rfl he) ?_
  refine ev_a (fun he => ev_push rfl he) ?_
  refine ev_a (fun he => ev_lload rfl rfl he) ?_
  obtain ⟨y24, σ25, h26, h⟩ := oB_inv h
  obtain ⟨c27, hG28⟩ := T_X12_token xs L N x6 x1 0 x4 σ (y24, σ25) h26 hG
  refine ev_a (fun he => ev_callV (as := [.int x6, .int x1, .int 0, .long x4]) rfl (gr_ob (n := 80) hG rfl) rfl rfl rfl (Nat.le_of_ble_eq_true rfl) (Nat.le_of_ble_eq_true rfl) c27 he) ?_
  refine ev_a (fun he => ev_iload rfl rfl he) ?_
  refine ev_a (fun he => ev_iload rfl rfl he) ?_
  refine ev_a (fun he => ev_bin (z := x1 + x3) rfl rfl he) ?_
  refine ev_a (fun he => ev_istore (ls' := [.ref 235, .int (x1 + x3), d2, .int x3, .long x4, d5, .int x6, d7]) rfl (Nat.le_of_ble_eq_true rfl) rfl he) ?_
  refine ev_a (fun he => ev_goto rfl he) ?_
  exact TJ_X12_cut_291 xs L N k7 hk7 (x1 + x3) (d2) (.int x3) (.long x4) (d5) (.int x6) (d7) σ25 q h hG28
def J_X12_cut_173 (N : Nat) (k7 : Int32 → aSt → Option (Unit × aSt)) (k146 : Int32 → Int32 → Int64 → Int32 → Int32 → aSt → Option (Unit × aSt)) (x1 : Int32) (x3 : Int32) (x4 : Int64) (x6 : Int32) (x7 : Int32) (σ : aSt) : Option (Unit × aSt) := k146 x1 x3 x4 x6 (x7 + 1) σ
set_option maxRecDepth 20000 in
set_option maxHeartbeats 4000000 in
theorem TJ_X12_cut_173 (xs : Nat → Int32) (L : Nat) (N : Nat) (k7 : Int32 → aSt → Option (Unit × aSt)) (k146 : Int32 → Int32 → Int64 → Int32 → Int32 → aSt → Option (Unit × aSt)) (hk7 : ∀ (x1 : Int32) (d2 : Value) (d3 : Value) (d4 : Value) (d5 : Value) (d6 : Value) (d7 : Value) (σ : aSt) (q : Unit × aSt), k7 x1 σ = some q → Gr σ → Ev xs L 127 7 [.ref 235, .int x1, d2, d3, d4, d5, d6, d7] [] σ (wV q.1) q.2 ∧ Gr q.2) (hk146 : ∀ (x1 : Int32) (x3 : Int32) (x4 : Int64) (x6 : Int32) (x7 : Int32) (d2 : Value) (d5 : Value) (σ : aSt) (q : Unit × aSt), k146 x1 x3 x4 x6 x7 σ = some q → Gr σ → Ev xs L 127 146 [.ref 235, .int x1, d2, .int x3, .long x4, d5, .int x6, .int x7] [] σ (wV q.1) q.2 ∧ Gr q.2) (x1 : Int32) (x3 : Int32) (x4 : Int64) (x6 : Int32) (x7 : Int32) (d2 : Value) (d5 : Value) (σ : aSt) (q : Unit × aSt) (h : J_X12_cut_173 N k7 k146 x1 x3 x4 x6 x7 σ = some q) (hG : Gr σ) : Ev xs L 127 173 [.ref 235, .int x1, d2, .int x3, .long x4, d5, .int x6, .int x7] [] σ (wV q.1) q.2 ∧ Gr q.2 := by
  have h : (k146 x1 x3 x4 x6 (x7 + 1) σ) = some q := h
  refine ev_a (fun he => ev_iinc (ls' := [.ref 235, .int x1, d2, .int x3, .long x4, d5, .int x6, .int (x7 + 1)]) rfl rfl rfl (Nat.le_of_ble_eq_true rfl) rfl he) ?_
  refine ev_a (fun he => ev_goto rfl he) ?_
  exact hk146 x1 x3 x4 x6 (x7 + 1) (d2) (d5) σ q h hG
def H_X12_cut_146 (N : Nat) (k7 : Int32 → aSt → Option (Unit × aSt)) : Nat → Int32 → Int32 → Int64 → Int32 → Int32 → aSt → Option (Unit × aSt)
  | 0, _, _, _, _, _, _ => none
  | n + 1, x1, x3, x4, x6, x7, σ => if 16 ≤ x7 then J_X12_cut_179 N k7 x1 x3 x4 x6 σ else cO (¬ (x7 < 0 ∨ 16 ≤ x7.toNatClampNeg)) (if (lg_cmp (aJ σ 242 x7.toNatClampNeg) x4) ≠ 0 then J_X12_cut_173 N k7 (H_X12_cut_146 N k7 n) x1 x3 x4 x6 x7 σ else J_X12_cut_173 N k7 (H_X12_cut_146 N k7 n) x1 x3 x4 (20 + x7) x7 σ)
set_option maxRecDepth 20000 in
set_option maxHeartbeats 4000000 in
theorem TH_X12_cut_146 (xs : Nat → Int32) (L : Nat) (N : Nat) (k7 : Int32 → aSt → Option (Unit × aSt)) (hk7 : ∀ (x1 : Int32) (d2 : Value) (d3 : Value) (d4 : Value) (d5 : Value) (d6 : Value) (d7 : Value) (σ : aSt) (q : Unit × aSt), k7 x1 σ = some q → Gr σ → Ev xs L 127 7 [.ref 235, .int x1, d2, d3, d4, d5, d6, d7] [] σ (wV q.1) q.2 ∧ Gr q.2) : ∀ (n : Nat) (x1 : Int32) (x3 : Int32) (x4 : Int64) (x6 : Int32) (x7 : Int32) (d2 : Value) (d5 : Value) (σ : aSt) (q : Unit × aSt), H_X12_cut_146 N k7 n x1 x3 x4 x6 x7 σ = some q → Gr σ → Ev xs L 127 146 [.ref 235, .int x1, d2, .int x3, .long x4, d5, .int x6, .int x7] [] σ (wV q.1) q.2 ∧ Gr q.2 := by
  intro n
  induction n with
  | zero =>
    intro x1 x3 x4 x6 x7 d2 d5 σ q h hG
    exact absurd (show (none : Option (Unit × aSt)) = some q from h) (by simp)
  | succ n ih =>
    intro x1 x3 x4 x6 x7 d2 d5 σ q h hG
    have hk146 : ∀ (x1 : Int32) (x3 : Int32) (x4 : Int64) (x6 : Int32) (x7 : Int32) (d2 : Value) (d5 : Value) (σ : aSt) (q : Unit × aSt), H_X12_cut_146 N k7 n x1 x3 x4 x6 x7 σ = some q → Gr σ → Ev xs L 127 146 [.ref 235, .int x1, d2, .int x3, .long x4, d5, .int x6, .int x7] [] σ (wV q.1) q.2 ∧ Gr q.2 := ih
    have h : (if 16 ≤ x7 then J_X12_cut_179 N k7 x1 x3 x4 x6 σ else cO (¬ (x7 < 0 ∨ 16 ≤ x7.toNatClampNeg)) (if (lg_cmp (aJ σ 242 x7.toNatClampNeg) x4) ≠ 0 then J_X12_cut_173 N k7 (H_X12_cut_146 N k7 n) x1 x3 x4 x6 x7 σ else J_X12_cut_173 N k7 (H_X12_cut_146 N k7 n) x1 x3 x4 (20 + x7) x7 σ)) = some q := h
    refine ev_a (fun he => ev_iload rfl rfl he) ?_
    refine ev_a (fun he => ev_push rfl he) ?_
    refine ev_b (c := 16 ≤ x7) (fun ht hf => ev_cge rfl ht hf) (fun hc29 => ?_) (fun hc29 => ?_)
    · rw [if_pos hc29] at h
      exact TJ_X12_cut_179 xs L N k7 hk7 x1 x3 x4 x6 (d2) (d5) (.int x7) σ q h hG
    · rw [if_neg hc29] at h
      refine ev_a (fun he => ev_aload rfl rfl he) ?_
      refine ev_a (fun he => ev_getR rfl (gr_ob (n := 80) hG rfl) (gr_p (a := 235) (k := 9) (b := 242) hG rfl) he) ?_
      refine ev_a (fun he => ev_iload rfl rfl he) ?_
      obtain ⟨hc30, h⟩ := cO_inv h
      refine ev_a (fun he => ev_aldJ (k := x7.toNatClampNeg) rfl (gr_ar hG rfl) hc30 rfl he) ?_
      refine ev_a (fun he => ev_lload rfl rfl he) ?_
      refine ev_a (fun he => ev_lcmp rfl he) ?_
      refine ev_b (c := (lg_cmp (aJ σ 242 x7.toNatClampNeg) x4) ≠ 0) (fun ht hf => ev_ifne rfl ht hf) (fun hc31 => ?_) (fun hc31 => ?_)
      · rw [if_pos hc31] at h
        exact TJ_X12_cut_173 xs L N k7 (H_X12_cut_146 N k7 n) hk7 hk146 x1 x3 x4 x6 x7 (d2) (d5) σ q h hG
      · rw [if_neg hc31] at h
        refine ev_a (fun he => ev_push rfl he) ?_
        refine ev_a (fun he => ev_iload rfl rfl he) ?_
        refine ev_a (fun he => ev_bin (z := 20 + x7) rfl rfl he) ?_
        refine ev_a (fun he => ev_istore (ls' := [.ref 235, .int x1, d2, .int x3, .long x4, (aKl d5), .int (20 + x7), .int x7]) rfl (Nat.le_of_ble_eq_true rfl) rfl he) ?_
        exact TJ_X12_cut_173 xs L N k7 (H_X12_cut_146 N k7 n) hk7 hk146 x1 x3 x4 (20 + x7) x7 (d2) ((aKl d5)) σ q h hG
def J_X12_cut_135 (N : Nat) (k7 : Int32 → aSt → Option (Unit × aSt)) (x1 : Int32) (x3 : Int32) (x4 : Int64) (s0 : Int32) (σ : aSt) : Option (Unit × aSt) := if 7 < x3 then J_X12_cut_179 N k7 x1 x3 x4 s0 σ else H_X12_cut_146 N k7 N x1 x3 x4 s0 0 σ
set_option maxRecDepth 20000 in
set_option maxHeartbeats 4000000 in
theorem TJ_X12_cut_135 (xs : Nat → Int32) (L : Nat) (N : Nat) (k7 : Int32 → aSt → Option (Unit × aSt)) (hk7 : ∀ (x1 : Int32) (d2 : Value) (d3 : Value) (d4 : Value) (d5 : Value) (d6 : Value) (d7 : Value) (σ : aSt) (q : Unit × aSt), k7 x1 σ = some q → Gr σ → Ev xs L 127 7 [.ref 235, .int x1, d2, d3, d4, d5, d6, d7] [] σ (wV q.1) q.2 ∧ Gr q.2) (x1 : Int32) (x3 : Int32) (x4 : Int64) (s0 : Int32) (d2 : Value) (d5 : Value) (d6 : Value) (d7 : Value) (σ : aSt) (q : Unit × aSt) (h : J_X12_cut_135 N k7 x1 x3 x4 s0 σ = some q) (hG : Gr σ) : Ev xs L 127 135 [.ref 235, .int x1, d2, .int x3, .long x4, d5, d6, d7] [.int s0] σ (wV q.1) q.2 ∧ Gr q.2 := by
  have h : (if 7 < x3 then J_X12_cut_179 N k7 x1 x3 x4 s0 σ else H_X12_cut_146 N k7 N x1 x3 x4 s0 0 σ) = some q := h
  refine ev_a (fun he => ev_istore (ls' := [.ref 235, .int x1, d2, .int x3, .long x4, (aKl d5), .int s0, d7]) rfl (Nat.le_of_ble_eq_true rfl) rfl he) ?_
  refine ev_a (fun he => ev_iload rfl rfl he) ?_
  refine ev_a (fun he => ev_push rfl he) ?_
  refine ev_b (c := 7 < x3) (fun ht hf => ev_cgt rfl ht hf) (fun hc32 => ?_) (fun hc32 => ?_)
  · rw [if_pos hc32] at h
    exact TJ_X12_cut_179 xs L N k7 hk7 x1 x3 x4 s0 (d2) ((aKl d5)) (d7) σ q h hG
  · rw [if_neg hc32] at h
    refine ev_a (fun he => ev_push rfl he) ?_
    refine ev_a (fun he => ev_istore (ls' := [.ref 235, .int x1, d2, .int x3, .long x4, (aKl d5), .int s0, .int 0]) rfl (Nat.le_of_ble_eq_true rfl) rfl he) ?_
    exact TH_X12_cut_146 xs L N k7 hk7 N x1 x3 x4 s0 0 (d2) ((aKl d5)) σ q h hG
def J_X12_cut_118 (N : Nat) (k7 : Int32 → aSt → Option (Unit × aSt)) (k85 : Int32 → Int32 → Int64 → aSt → Option (Unit × aSt)) (x1 : Int32) (x3 : Int32) (x4 : Int64) (σ : aSt) : Option (Unit × aSt) := k85 x1 (x3 + 1) x4 σ
set_option maxRecDepth 20000 in
set_option maxHeartbeats 4000000 in
theorem TJ_X12_cut_118 (xs : Nat → Int32) (L : Nat) (N : Nat) (k7 : Int32 → aSt → Option (Unit × aSt)) (k85 : Int32 → Int32 → Int64 → aSt → Option (Unit × aSt)) (hk7 : ∀ (x1 : Int32) (d2 : Value) (d3 : Value) (d4 : Value) (d5 : Value) (d6 : Value) (d7 : Value) (σ : aSt) (q : Unit × aSt), k7 x1 σ = some q → Gr σ → Ev xs L 127 7 [.ref 235, .int x1, d2, d3, d4, d5, d6, d7] [] σ (wV q.1) q.2 ∧ Gr q.2) (hk85 : ∀ (x1 : Int32) (x3 : Int32) (x4 : Int64) (d2 : Value) (d5 : Value) (d6 : Value) (d7 : Value) (σ : aSt) (q : Unit × aSt), k85 x1 x3 x4 σ = some q → Gr σ → Ev xs L 127 85 [.ref 235, .int x1, d2, .int x3, .long x4, d5, d6, d7] [] σ (wV q.1) q.2 ∧ Gr q.2) (x1 : Int32) (x3 : Int32) (x4 : Int64) (d2 : Value) (d5 : Value) (d6 : Value) (d7 : Value) (σ : aSt) (q : Unit × aSt) (h : J_X12_cut_118 N k7 k85 x1 x3 x4 σ = some q) (hG : Gr σ) : Ev xs L 127 118 [.ref 235, .int x1, d2, .int x3, .long x4, d5, d6, d7] [] σ (wV q.1) q.2 ∧ Gr q.2 := by
  have h : (k85 x1 (x3 + 1) x4 σ) = some q := h
  refine ev_a (fun he => ev_iinc (ls' := [.ref 235, .int x1, (aKl d2), .int (x3 + 1), .long x4, d5, d6, d7]) rfl rfl rfl (Nat.le_of_ble_eq_true rfl) rfl he) ?_
  refine ev_a (fun he => ev_goto rfl he) ?_
  exact hk85 x1 (x3 + 1) x4 ((aKl d2)) (d5) (d6) (d7) σ q h hG
def H_X12_cut_85 (N : Nat) (k7 : Int32 → aSt → Option (Unit × aSt)) : Nat → Int32 → Int32 → Int64 → aSt → Option (Unit × aSt)
  | 0, _, _, _, _ => none
  | n + 1, x1, x3, x4, σ => oB (F_X12_at N (x1 + x3) σ) fun y33 σ34 => oB (F_X12_isLetter N y33 σ34) fun y38 σ39 => if y38 = 0 then if x3 ≤ 8 then J_X12_cut_135 N k7 x1 x3 x4 1 σ39 else J_X12_cut_135 N k7 x1 x3 x4 3 σ39 else if 8 ≤ x3 then J_X12_cut_118 N k7 (H_X12_cut_85 N k7 n) x1 x3 x4 σ39 else oB (F_X12_at N (x1 + x3) σ39) fun y46 σ47 => oB (F_X12_more N x4 y46 σ47) fun y51 σ52 => J_X12_cut_118 N k7 (H_X12_cut_85 N k7 n) x1 x3 y51 σ52
set_option maxRecDepth 20000 in
set_option maxHeartbeats 4000000 in
theorem TH_X12_cut_85 (xs : Nat → Int32) (L : Nat) (N : Nat) (k7 : Int32 → aSt → Option (Unit × aSt)) (hk7 : ∀ (x1 : Int32) (d2 : Value) (d3 : Value) (d4 : Value) (d5 : Value) (d6 : Value) (d7 : Value) (σ : aSt) (q : Unit × aSt), k7 x1 σ = some q → Gr σ → Ev xs L 127 7 [.ref 235, .int x1, d2, d3, d4, d5, d6, d7] [] σ (wV q.1) q.2 ∧ Gr q.2) : ∀ (n : Nat) (x1 : Int32) (x3 : Int32) (x4 : Int64) (d2 : Value) (d5 : Value) (d6 : Value) (d7 : Value) (σ : aSt) (q : Unit × aSt), H_X12_cut_85 N k7 n x1 x3 x4 σ = some q → Gr σ → Ev xs L 127 85 [.ref 235, .int x1, d2, .int x3, .long x4, d5, d6, d7] [] σ (wV q.1) q.2 ∧ Gr q.2 := by
  intro n
  induction n with
  | zero =>
    intro x1 x3 x4 d2 d5 d6 d7 σ q h hG
    exact absurd (show (none : Option (Unit × aSt)) = some q from h) (by simp)
  | succ n ih =>
    intro x1 x3 x4 d2 d5 d6 d7 σ q h hG
    have hk85 : ∀ (x1 : Int32) (x3 : Int32) (x4 : Int64) (d2 : Value) (d5 : Value) (d6 : Value) (d7 : Value) (σ : aSt) (q : Unit × aSt), H_X12_cut_85 N k7 n x1 x3 x4 σ = some q → Gr σ → Ev xs L 127 85 [.ref 235, .int x1, d2, .int x3, .long x4, d5, d6, d7] [] σ (wV q.1) q.2 ∧ Gr q.2 := ih
    have h : (oB (F_X12_at N (x1 + x3) σ) fun y33 σ34 => oB (F_X12_isLetter N y33 σ34) fun y38 σ39 => if y38 = 0 then if x3 ≤ 8 then J_X12_cut_135 N k7 x1 x3 x4 1 σ39 else J_X12_cut_135 N k7 x1 x3 x4 3 σ39 else if 8 ≤ x3 then J_X12_cut_118 N k7 (H_X12_cut_85 N k7 n) x1 x3 x4 σ39 else oB (F_X12_at N (x1 + x3) σ39) fun y46 σ47 => oB (F_X12_more N x4 y46 σ47) fun y51 σ52 => J_X12_cut_118 N k7 (H_X12_cut_85 N k7 n) x1 x3 y51 σ52) = some q := h
    refine ev_a (fun he => ev_aload rfl rfl he) ?_
    refine ev_a (fun he => ev_iload rfl rfl he) ?_
    refine ev_a (fun he => ev_iload rfl rfl he) ?_
    refine ev_a (fun he => ev_bin (z := x1 + x3) rfl rfl he) ?_
    obtain ⟨y33, σ34, h35, h⟩ := oB_inv h
    obtain ⟨c36, hG37⟩ := T_X12_at xs L N (x1 + x3) σ (y33, σ34) h35 hG
    refine ev_a (fun he => ev_callV (as := [.int (x1 + x3)]) rfl (gr_ob (n := 80) hG rfl) rfl rfl rfl (Nat.le_of_ble_eq_true rfl) (Nat.le_of_ble_eq_true rfl) c36 he) ?_
    obtain ⟨y38, σ39, h40, h⟩ := oB_inv h
    obtain ⟨c41, hG42⟩ := T_X12_isLetter xs L N y33 σ34 (y38, σ39) h40 hG37
    refine ev_a (fun he => ev_callS (as := [.int y33]) rfl rfl rfl rfl (Nat.le_of_ble_eq_true rfl) (Nat.le_of_ble_eq_true rfl) c41 he) ?_
    refine ev_b (c := y38 = 0) (fun ht hf => ev_ifeq rfl ht hf) (fun hc43 => ?_) (fun hc43 => ?_)
    · rw [if_pos hc43] at h
      refine ev_a (fun he => ev_iload rfl rfl he) ?_
      refine ev_a (fun he => ev_push rfl he) ?_
      refine ev_b (c := x3 ≤ 8) (fun ht hf => ev_cle rfl ht hf) (fun hc44 => ?_) (fun hc44 => ?_)
      · rw [if_pos hc44] at h
        refine ev_a (fun he => ev_push rfl he) ?_
        exact TJ_X12_cut_135 xs L N k7 hk7 x1 x3 x4 1 (d2) (d5) (d6) (d7) σ39 q h hG42
      · rw [if_neg hc44] at h
        refine ev_a (fun he => ev_push rfl he) ?_
        refine ev_a (fun he => ev_goto rfl he) ?_
        exact TJ_X12_cut_135 xs L N k7 hk7 x1 x3 x4 3 (d2) (d5) (d6) (d7) σ39 q h hG42
    · rw [if_neg hc43] at h
      refine ev_a (fun he => ev_iload rfl rfl he) ?_
      refine ev_a (fun he => ev_push rfl he) ?_
      refine ev_b (c := 8 ≤ x3) (fun ht hf => ev_cge rfl ht hf) (fun hc45 => ?_) (fun hc45 => ?_)
      · rw [if_pos hc45] at h
        exact TJ_X12_cut_118 xs L N k7 (H_X12_cut_85 N k7 n) hk7 hk85 x1 x3 x4 (d2) (d5) (d6) (d7) σ39 q h hG42
      · rw [if_neg hc45] at h
        refine ev_a (fun he => ev_lload rfl rfl he) ?_
        refine ev_a (fun he => ev_aload rfl rfl he) ?_
        refine ev_a (fun he => ev_iload rfl rfl he) ?_
        refine ev_a (fun he => ev_iload rfl rfl he) ?_
        refine ev_a (fun he => ev_bin (z := x1 + x3) rfl rfl he) ?_
        obtain ⟨y46, σ47, h48, h⟩ := oB_inv h
        obtain ⟨c49, hG50⟩ := T_X12_at xs L N (x1 + x3) σ39 (y46, σ47) h48 hG42
        refine ev_a (fun he => ev_callV (as := [.int (x1 + x3)]) rfl (gr_ob (n := 80) hG42 rfl) rfl rfl rfl (Nat.le_of_ble_eq_true rfl) (Nat.le_of_ble_eq_true rfl) c49 he) ?_
        obtain ⟨y51, σ52, h53, h⟩ := oB_inv h
        obtain ⟨c54, hG55⟩ := T_X12_more xs L N x4 y46 σ47 (y51, σ52) h53 hG50
        refine ev_a (fun he => ev_callS (as := [.long x4, .int y46]) rfl rfl rfl rfl (Nat.le_of_ble_eq_true rfl) (Nat.le_of_ble_eq_true rfl) c54 he) ?_
        refine ev_a (fun he => ev_lstore (ls' := [.ref 235, .int x1, d2, .int x3, .long y51, aU, d6, d7]) rfl (Nat.le_of_ble_eq_true rfl) rfl he) ?_
        exact TJ_X12_cut_118 xs L N k7 (H_X12_cut_85 N k7 n) hk7 hk85 x1 x3 y51 (d2) (aU) (d6) (d7) σ52 q h hG55
def H_X12_cut_7 (N : Nat) : Nat → Int32 → aSt → Option (Unit × aSt)
  | 0, _, _ => none
  | n + 1, x1, σ => if 400 < (aI σ 235 10) then some ((), σ) else oB (F_X12_at N x1 σ) fun y57 σ58 => if x1 < (aI σ58 235 4) then if y57 = 9 then J_X12_cut_67 N (H_X12_cut_7 N n) x1 σ58 else if y57 = 10 then J_X12_cut_67 N (H_X12_cut_7 N n) x1 σ58 else if y57 = 13 then J_X12_cut_67 N (H_X12_cut_7 N n) x1 σ58 else if y57 ≠ 32 then oB (F_X12_isLetter N y57 σ58) fun y67 σ68 => if y67 = 0 then oB (F_X12_isDigit N y57 σ68) fun y73 σ74 => if y73 = 0 then oB (F_X12_at N (x1 + 1) σ74) fun y79 σ80 => oB (F_X12_sign N x1 y57 y79 σ80) fun y84 σ85 => J_X12_cut_291 N (H_X12_cut_7 N n) (x1 + y84) σ85 else H_X12_cut_208 N (H_X12_cut_7 N n) N x1 0 0 σ74 else H_X12_cut_85 N (H_X12_cut_7 N n) N x1 0 0 σ68 else J_X12_cut_67 N (H_X12_cut_7 N n) x1 σ58 else oB (F_X12_token N 0 (aI σ58 235 4) 0 0 σ58) fun y89 σ90 => some ((), σ90)
set_option maxRecDepth 20000 in
set_option maxHeartbeats 4000000 in
theorem TH_X12_cut_7 (xs : Nat → Int32) (L : Nat) (N : Nat) : ∀ (n : Nat) (x1 : Int32) (d2 : Value) (d3 : Value) (d4 : Value) (d5 : Value) (d6 : Value) (d7 : Value) (σ : aSt) (q : Unit × aSt), H_X12_cut_7 N n x1 σ = some q → Gr σ → Ev xs L 127 7 [.ref 235, .int x1, d2, d3, d4, d5, d6, d7] [] σ (wV q.1) q.2 ∧ Gr q.2 := by
  intro n
  induction n with
  | zero =>
    intro x1 d2 d3 d4 d5 d6 d7 σ q h hG
    exact absurd (show (none : Option (Unit × aSt)) = some q from h) (by simp)
  | succ n ih =>
    intro x1 d2 d3 d4 d5 d6 d7 σ q h hG
    have hk7 : ∀ (x1 : Int32) (d2 : Value) (d3 : Value) (d4 : Value) (d5 : Value) (d6 : Value) (d7 : Value) (σ : aSt) (q : Unit × aSt), H_X12_cut_7 N n x1 σ = some q → Gr σ → Ev xs L 127 7 [.ref 235, .int x1, d2, d3, d4, d5, d6, d7] [] σ (wV q.1) q.2 ∧ Gr q.2 := ih
    have h : (if 400 < (aI σ 235 10) then some ((), σ) else oB (F_X12_at N x1 σ) fun y57 σ58 => if x1 < (aI σ58 235 4) then if y57 = 9 then J_X12_cut_67 N (H_X12_cut_7 N n) x1 σ58 else if y57 = 10 then J_X12_cut_67 N (H_X12_cut_7 N n) x1 σ58 else if y57 = 13 then J_X12_cut_67 N (H_X12_cut_7 N n) x1 σ58 else if y57 ≠ 32 then oB (F_X12_isLetter N y57 σ58) fun y67 σ68 => if y67 = 0 then oB (F_X12_isDigit N y57 σ68) fun y73 σ74 => if y73 = 0 then oB (F_X12_at N (x1 + 1) σ74) fun y79 σ80 => oB (F_X12_sign N x1 y57 y79 σ80) fun y84 σ85 => J_X12_cut_291 N (H_X12_cut_7 N n) (x1 + y84) σ85 else H_X12_cut_208 N (H_X12_cut_7 N n) N x1 0 0 σ74 else H_X12_cut_85 N (H_X12_cut_7 N n) N x1 0 0 σ68 else J_X12_cut_67 N (H_X12_cut_7 N n) x1 σ58 else oB (F_X12_token N 0 (aI σ58 235 4) 0 0 σ58) fun y89 σ90 => some ((), σ90)) = some q := h
    refine ev_a (fun he => ev_aload rfl rfl he) ?_
    refine ev_a (fun he => ev_getI rfl (gr_ob (n := 80) hG rfl) he) ?_
    refine ev_a (fun he => ev_push rfl he) ?_
    refine ev_b (c := 400 < (aI σ 235 10)) (fun ht hf => ev_cgt rfl ht hf) (fun hc56 => ?_) (fun hc56 => ?_)
    · rw [if_pos hc56] at h
      cases h
      exact ⟨ev_retV rfl, hG⟩
    · rw [if_neg hc56] at h
      refine ev_a (fun he => ev_aload rfl rfl he) ?_
      refine ev_a (fun he => ev_iload rfl rfl he) ?_
      obtain ⟨y57, σ58, h59, h⟩ := oB_inv h
      obtain ⟨c60, hG61⟩ := T_X12_at xs L N x1 σ (y57, σ58) h59 hG
      refine ev_a (fun he => ev_callV (as := [.int x1]) rfl (gr_ob (n := 80) hG rfl) rfl rfl rfl (Nat.le_of_ble_eq_true rfl) (Nat.le_of_ble_eq_true rfl) c60 he) ?_
      refine ev_a (fun he => ev_istore (ls' := [.ref 235, .int x1, .int y57, d3, d4, d5, d6, d7]) rfl (Nat.le_of_ble_eq_true rfl) rfl he) ?_
      refine ev_a (fun he => ev_iload rfl rfl he) ?_
      refine ev_a (fun he => ev_aload rfl rfl he) ?_
      refine ev_a (fun he => ev_getI rfl (gr_ob (n := 80) hG61 rfl) he) ?_
      refine ev_b (c := x1 < (aI σ58 235 4)) (fun ht hf => ev_clt rfl ht hf) (fun hc62 => ?_) (fun hc62 => ?_)
      · rw [if_pos hc62] at h
        refine ev_a (fun he => ev_iload rfl rfl he) ?_
        refine ev_a (fun he => ev_push rfl he) ?_
        refine ev_b (c := y57 = 9) (fun ht hf => ev_ceq rfl ht hf) (fun hc63 => ?_) (fun hc63 => ?_)
        · rw [if_pos hc63] at h
          exact TJ_X12_cut_67 xs L N (H_X12_cut_7 N n) hk7 x1 (.int y57) (d3) (d4) (d5) (d6) (d7) σ58 q h hG61
        · rw [if_neg hc63] at h
          refine ev_a (fun he => ev_iload rfl rfl he) ?_
          refine ev_a (fun he => ev_push rfl he) ?_
          refine ev_b (c := y57 = 10) (fun ht hf => ev_ceq rfl ht hf) (fun hc64 => ?_) (fun hc64 => ?_)
          · rw [if_pos hc64] at h
            exact TJ_X12_cut_67 xs L N (H_X12_cut_7 N n) hk7 x1 (.int y57) (d3) (d4) (d5) (d6) (d7) σ58 q h hG61
          · rw [if_neg hc64] at h
            refine ev_a (fun he => ev_iload rfl rfl he) ?_
            refine ev_a (fun he => ev_push rfl he) ?_
            refine ev_b (c := y57 = 13) (fun ht hf => ev_ceq rfl ht hf) (fun hc65 => ?_) (fun hc65 => ?_)
            · rw [if_pos hc65] at h
              exact TJ_X12_cut_67 xs L N (H_X12_cut_7 N n) hk7 x1 (.int y57) (d3) (d4) (d5) (d6) (d7) σ58 q h hG61
            · rw [if_neg hc65] at h
              refine ev_a (fun he => ev_iload rfl rfl he) ?_
              refine ev_a (fun he => ev_push rfl he) ?_
              refine ev_b (c := y57 ≠ 32) (fun ht hf => ev_cne rfl ht hf) (fun hc66 => ?_) (fun hc66 => ?_)
              · rw [if_pos hc66] at h
                refine ev_a (fun he => ev_iload rfl rfl he) ?_
                obtain ⟨y67, σ68, h69, h⟩ := oB_inv h
                obtain ⟨c70, hG71⟩ := T_X12_isLetter xs L N y57 σ58 (y67, σ68) h69 hG61
                refine ev_a (fun he => ev_callS (as := [.int y57]) rfl rfl rfl rfl (Nat.le_of_ble_eq_true rfl) (Nat.le_of_ble_eq_true rfl) c70 he) ?_
                refine ev_b (c := y67 = 0) (fun ht hf => ev_ifeq rfl ht hf) (fun hc72 => ?_) (fun hc72 => ?_)
                · rw [if_pos hc72] at h
                  refine ev_a (fun he => ev_iload rfl rfl he) ?_
                  obtain ⟨y73, σ74, h75, h⟩ := oB_inv h
                  obtain ⟨c76, hG77⟩ := T_X12_isDigit xs L N y57 σ68 (y73, σ74) h75 hG71
                  refine ev_a (fun he => ev_callS (as := [.int y57]) rfl rfl rfl rfl (Nat.le_of_ble_eq_true rfl) (Nat.le_of_ble_eq_true rfl) c76 he) ?_
                  refine ev_b (c := y73 = 0) (fun ht hf => ev_ifeq rfl ht hf) (fun hc78 => ?_) (fun hc78 => ?_)
                  · rw [if_pos hc78] at h
                    refine ev_a (fun he => ev_iload rfl rfl he) ?_
                    refine ev_a (fun he => ev_aload rfl rfl he) ?_
                    refine ev_a (fun he => ev_iload rfl rfl he) ?_
                    refine ev_a (fun he => ev_iload rfl rfl he) ?_
                    refine ev_a (fun he => ev_aload rfl rfl he) ?_
                    refine ev_a (fun he => ev_iload rfl rfl he) ?_
                    refine ev_a (fun he => ev_push rfl he) ?_
                    refine ev_a (fun he => ev_bin (z := x1 + 1) rfl rfl he) ?_
                    obtain ⟨y79, σ80, h81, h⟩ := oB_inv h
                    obtain ⟨c82, hG83⟩ := T_X12_at xs L N (x1 + 1) σ74 (y79, σ80) h81 hG77
                    refine ev_a (fun he => ev_callV (as := [.int (x1 + 1)]) rfl (gr_ob (n := 80) hG77 rfl) rfl rfl rfl (Nat.le_of_ble_eq_true rfl) (Nat.le_of_ble_eq_true rfl) c82 he) ?_
                    obtain ⟨y84, σ85, h86, h⟩ := oB_inv h
                    obtain ⟨c87, hG88⟩ := T_X12_sign xs L N x1 y57 y79 σ80 (y84, σ85) h86 hG83
                    refine ev_a (fun he => ev_callV (as := [.int x1, .int y57, .int y79]) rfl (gr_ob (n := 80) hG83 rfl) rfl rfl rfl (Nat.le_of_ble_eq_true rfl) (Nat.le_of_ble_eq_true rfl) c87 he) ?_
                    refine ev_a (fun he => ev_bin (z := x1 + y84) rfl rfl he) ?_
                    refine ev_a (fun he => ev_istore (ls' := [.ref 235, .int (x1 + y84), .int y57, d3, d4, d5, d6, d7]) rfl (Nat.le_of_ble_eq_true rfl) rfl he) ?_
                    exact TJ_X12_cut_291 xs L N (H_X12_cut_7 N n) hk7 (x1 + y84) (.int y57) (d3) (d4) (d5) (d6) (d7) σ85 q h hG88
                  · rw [if_neg hc78] at h
                    refine ev_a (fun he => ev_push rfl he) ?_
                    refine ev_a (fun he => ev_istore (ls' := [.ref 235, .int x1, .int y57, .int 0, d4, d5, d6, d7]) rfl (Nat.le_of_ble_eq_true rfl) rfl he) ?_
                    refine ev_a (fun he => ev_push rfl he) ?_
                    refine ev_a (fun he => ev_istore (ls' := [.ref 235, .int x1, .int y57, .int 0, .int 0, d5, d6, d7]) rfl (Nat.le_of_ble_eq_true rfl) rfl he) ?_
                    exact TH_X12_cut_208 xs L N (H_X12_cut_7 N n) hk7 N x1 0 0 (.int y57) (d5) (d6) (d7) σ74 q h hG77
                · rw [if_neg hc72] at h
                  refine ev_a (fun he => ev_push rfl he) ?_
                  refine ev_a (fun he => ev_istore (ls' := [.ref 235, .int x1, .int y57, .int 0, d4, d5, d6, d7]) rfl (Nat.le_of_ble_eq_true rfl) rfl he) ?_
                  refine ev_a (fun he => ev_push rfl he) ?_
                  refine ev_a (fun he => ev_lstore (ls' := [.ref 235, .int x1, .int y57, .int 0, .long 0, aU, d6, d7]) rfl (Nat.le_of_ble_eq_true rfl) rfl he) ?_
                  exact TH_X12_cut_85 xs L N (H_X12_cut_7 N n) hk7 N x1 0 0 (.int y57) (aU) (d6) (d7) σ68 q h hG71
              · rw [if_neg hc66] at h
                exact TJ_X12_cut_67 xs L N (H_X12_cut_7 N n) hk7 x1 (.int y57) (d3) (d4) (d5) (d6) (d7) σ58 q h hG61
      · rw [if_neg hc62] at h
        refine ev_a (fun he => ev_aload rfl rfl he) ?_
        refine ev_a (fun he => ev_push rfl he) ?_
        refine ev_a (fun he => ev_aload rfl rfl he) ?_
        refine ev_a (fun he => ev_getI rfl (gr_ob (n := 80) hG61 rfl) he) ?_
        refine ev_a (fun he => ev_push rfl he) ?_
        refine ev_a (fun he => ev_push rfl he) ?_
        obtain ⟨y89, σ90, h91, h⟩ := oB_inv h
        obtain ⟨c92, hG93⟩ := T_X12_token xs L N 0 (aI σ58 235 4) 0 0 σ58 (y89, σ90) h91 hG61
        refine ev_a (fun he => ev_callV (as := [.int 0, .int (aI σ58 235 4), .int 0, .long 0]) rfl (gr_ob (n := 80) hG61 rfl) rfl rfl rfl (Nat.le_of_ble_eq_true rfl) (Nat.le_of_ble_eq_true rfl) c92 he) ?_
        cases h
        exact ⟨ev_retV rfl, hG93⟩
def F_X12_cut (N : Nat) (σ : aSt) : Option (Unit × aSt) := lt (aWI σ 235 10 0) fun σ94 => H_X12_cut_7 N N 0 σ94
set_option maxRecDepth 20000 in
set_option maxHeartbeats 4000000 in
theorem T_X12_cut (xs : Nat → Int32) (L : Nat) (N : Nat) (σ : aSt) (q : Unit × aSt) (h : F_X12_cut N σ = some q) (hG : Gr σ) : Cal xs L 127 [.ref 235] σ (wV q.1) q.2 ∧ Gr q.2 := by
  have h : (lt (aWI σ 235 10 0) fun σ94 => H_X12_cut_7 N N 0 σ94) = some q := h
  show Ev xs L 127 0 [.ref 235, aU, aU, aU, aU, aU, aU, aU] [] σ (wV q.1) q.2 ∧ Gr q.2
  refine ev_a (fun he => ev_aload rfl rfl he) ?_
  refine ev_a (fun he => ev_push rfl he) ?_
  obtain ⟨σ94, e95, h⟩ := lt_inv h
  have hG96 : Gr σ94 := gr_wi e95 hG
  refine ev_a (fun he => ev_putI rfl (gr_ob (n := 80) hG rfl) e95 he) ?_
  refine ev_a (fun he => ev_push rfl he) ?_
  refine ev_a (fun he => ev_istore (ls' := [.ref 235, .int 0, aU, aU, aU, aU, aU, aU]) rfl (Nat.le_of_ble_eq_true rfl) rfl he) ?_
  exact TH_X12_cut_7 xs L N N 0 (aU) (aU) (aU) (aU) (aU) (aU) σ94 q h hG96
