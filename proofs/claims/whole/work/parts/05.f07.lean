def J_J0_isLatin1_aae02_18 (N : Nat) (s0 : Int32) (σ : aSt) : Option (Int32 × aSt) := cO (vp_nar .boolean s0 = s0) (some (s0, σ))
set_option maxRecDepth 20000 in
set_option maxHeartbeats 4000000 in
theorem TJ_J0_isLatin1_aae02_18 (xs : Nat → Int32) (L : Nat) (N : Nat) (s0 : Int32) (d0 : Value) (σ : aSt) (q : Int32 × aSt) (h : J_J0_isLatin1_aae02_18 N s0 σ = some q) (hG : Gr σ) : Ev xs L 180 18 [d0] [.int s0] σ (wI q.1) q.2 ∧ Gr q.2 := by
  have h : (cO (vp_nar .boolean s0 = s0) (some (s0, σ))) = some q := h
  obtain ⟨hc1, h⟩ := cO_inv h
  cases h
  exact ⟨ev_retZ rfl hc1, hG⟩
def J_J0_isLatin1_aae02_17 (N : Nat) (σ : aSt) : Option (Int32 × aSt) := J_J0_isLatin1_aae02_18 N 0 σ
set_option maxRecDepth 20000 in
set_option maxHeartbeats 4000000 in
theorem TJ_J0_isLatin1_aae02_17 (xs : Nat → Int32) (L : Nat) (N : Nat) (d0 : Value) (σ : aSt) (q : Int32 × aSt) (h : J_J0_isLatin1_aae02_17 N  σ = some q) (hG : Gr σ) : Ev xs L 180 17 [d0] [] σ (wI q.1) q.2 ∧ Gr q.2 := by
  have h : (J_J0_isLatin1_aae02_18 N 0 σ) = some q := h
  refine ev_a (fun he => ev_push rfl he) ?_
  exact TJ_J0_isLatin1_aae02_18 xs L N 0 (d0) σ q h hG
def F_J0_isLatin1_aae02 (N : Nat) (σ : aSt) : Option (Int32 × aSt) := J_J0_isLatin1_aae02_18 N 1 σ
set_option maxRecDepth 20000 in
set_option maxHeartbeats 4000000 in
theorem T_J0_isLatin1_aae02 (xs : Nat → Int32) (L : Nat) (N : Nat) (σ : aSt) (q : Int32 × aSt) (h : F_J0_isLatin1_aae02 N σ = some q) (hG : Gr σ) : Cal xs L 180 [.float 1] σ (wI q.1) q.2 ∧ Gr q.2 := by
  have h : (J_J0_isLatin1_aae02_18 N 1 σ) = some q := h
  show Ev xs L 180 0 [.float 1] [] σ (wI q.1) q.2 ∧ Gr q.2
  refine ev_a (fun he => ev_push rfl he) ?_
  refine ev_a (fun he => ev_ifeq rfl (fun hc => absurd hc (by decide)) (fun _ => he)) ?_
  refine ev_a (fun he => ev_aloadF rfl rfl he) ?_
  refine ev_a (fun he => ev_tcod rfl he) ?_
  refine ev_a (fun he => ev_ifne rfl (fun hc => absurd hc (by decide)) (fun _ => he)) ?_
  refine ev_a (fun he => ev_push rfl he) ?_
  refine ev_a (fun he => ev_goto rfl he) ?_
  exact TJ_J0_isLatin1_aae02_18 xs L N 1 (.float 1) σ q h hG
def J_J3_checkIndex_8e157_9 (N : Nat) (x0 : Int32) (x1 : Int32) (σ : aSt) : Option (Int32 × aSt) := none
set_option maxRecDepth 20000 in
set_option maxHeartbeats 4000000 in
theorem TJ_J3_checkIndex_8e157_9 (xs : Nat → Int32) (L : Nat) (N : Nat) (x0 : Int32) (x1 : Int32) (σ : aSt) (q : Int32 × aSt) (h : J_J3_checkIndex_8e157_9 N x0 x1 σ = some q) (hG : Gr σ) : Ev xs L 187 9 [.int x0, .int x1, .float 3] [] σ (wI q.1) q.2 ∧ Gr q.2 := by
  have h : (none) = some q := h
  refine ev_a (fun he => ev_aloadF rfl rfl he) ?_
  refine ev_a (fun he => ev_iload rfl rfl he) ?_
  refine ev_a (fun he => ev_iload rfl rfl he) ?_
  exact absurd h (by simp)
def F_J3_checkIndex_8e157 (N : Nat) (x0 : Int32) (x1 : Int32) (σ : aSt) : Option (Int32 × aSt) := if x0 < 0 then J_J3_checkIndex_8e157_9 N x0 x1 σ else if x0 < x1 then some (x0, σ) else J_J3_checkIndex_8e157_9 N x0 x1 σ
set_option maxRecDepth 20000 in
set_option maxHeartbeats 4000000 in
theorem T_J3_checkIndex_8e157 (xs : Nat → Int32) (L : Nat) (N : Nat) (x0 : Int32) (x1 : Int32) (σ : aSt) (q : Int32 × aSt) (h : F_J3_checkIndex_8e157 N x0 x1 σ = some q) (hG : Gr σ) : Cal xs L 187 [.int x0, .int x1, .float 3] σ (wI q.1) q.2 ∧ Gr q.2 := by
  have h : (if x0 < 0 then J_J3_checkIndex_8e157_9 N x0 x1 σ else if x0 < x1 then some (x0, σ) else J_J3_checkIndex_8e157_9 N x0 x1 σ) = some q := h
  show Ev xs L 187 0 [.int x0, .int x1, .float 3] [] σ (wI q.1) q.2 ∧ Gr q.2
  refine ev_a (fun he => ev_iload rfl rfl he) ?_
  refine ev_b (c := x0 < 0) (fun ht hf => ev_iflt rfl ht hf) (fun hc1 => ?_) (fun hc1 => ?_)
  · rw [if_pos hc1] at h
    exact TJ_J3_checkIndex_8e157_9 xs L N x0 x1 σ q h hG
  · rw [if_neg hc1] at h
    refine ev_a (fun he => ev_iload rfl rfl he) ?_
    refine ev_a (fun he => ev_iload rfl rfl he) ?_
    refine ev_b (c := x0 < x1) (fun ht hf => ev_clt rfl ht hf) (fun hc2 => ?_) (fun hc2 => ?_)
    · rw [if_pos hc2] at h
      refine ev_a (fun he => ev_iload rfl rfl he) ?_
      cases h
      exact ⟨ev_retI rfl, hG⟩
    · rw [if_neg hc2] at h
      exact TJ_J3_checkIndex_8e157_9 xs L N x0 x1 σ q h hG
def F_J0_checkIndex_df160 (N : Nat) (x0 : Int32) (x1 : Int32) (σ : aSt) : Option (Unit × aSt) := oB (F_J3_checkIndex_8e157 N x0 x1 σ) fun y1 σ2 => some ((), σ2)
set_option maxRecDepth 20000 in
set_option maxHeartbeats 4000000 in
theorem T_J0_checkIndex_df160 (xs : Nat → Int32) (L : Nat) (N : Nat) (x0 : Int32) (x1 : Int32) (σ : aSt) (q : Unit × aSt) (h : F_J0_checkIndex_df160 N x0 x1 σ = some q) (hG : Gr σ) : Cal xs L 181 [.int x0, .int x1] σ (wV q.1) q.2 ∧ Gr q.2 := by
  have h : (oB (F_J3_checkIndex_8e157 N x0 x1 σ) fun y1 σ2 => some ((), σ2)) = some q := h
  show Ev xs L 181 0 [.int x0, .int x1] [] σ (wV q.1) q.2 ∧ Gr q.2
  refine ev_a (fun he => ev_iload rfl rfl he) ?_
  refine ev_a (fun he => ev_iload rfl rfl he) ?_
  refine ev_a (fun he => ev_push rfl he) ?_
  obtain ⟨y1, σ2, h3, h⟩ := oB_inv h
  obtain ⟨c4, hG5⟩ := T_J3_checkIndex_8e157 xs L N x0 x1 σ (y1, σ2) h3 hG
  refine ev_a (fun he => ev_callS (as := [.int x0, .int x1, .float 3]) rfl rfl rfl rfl (Nat.le_of_ble_eq_true rfl) (Nat.le_of_ble_eq_true rfl) c4 he) ?_
  refine ev_a (fun he => ev_popI rfl he) ?_
  cases h
  exact ⟨ev_retV rfl, hG5⟩
def F_J1_charAt_3b067 (N : Nat) (x1 : Int32) (σ : aSt) : Option (Int32 × aSt) := oB (F_J0_checkIndex_df160 N x1 (Int32.ofNat 128) σ) fun y1 σ2 => cO (¬ (x1 < 0 ∨ aBy.length ≤ x1.toNatClampNeg)) (cO (vp_nar .char ((((aBy.getD x1.toNatClampNeg 0) &&& 255).toUInt32 % 65536).toInt32) = ((((aBy.getD x1.toNatClampNeg 0) &&& 255).toUInt32 % 65536).toInt32)) (some ((((aBy.getD x1.toNatClampNeg 0) &&& 255).toUInt32 % 65536).toInt32, σ2)))
set_option maxRecDepth 20000 in
set_option maxHeartbeats 4000000 in
theorem T_J1_charAt_3b067 (xs : Nat → Int32) (L : Nat) (N : Nat) (x1 : Int32) (σ : aSt) (q : Int32 × aSt) (h : F_J1_charAt_3b067 N x1 σ = some q) (hG : Gr σ) : Cal xs L 182 [.float 2, .int x1] σ (wI q.1) q.2 ∧ Gr q.2 := by
  have h : (oB (F_J0_checkIndex_df160 N x1 (Int32.ofNat 128) σ) fun y1 σ2 => cO (¬ (x1 < 0 ∨ aBy.length ≤ x1.toNatClampNeg)) (cO (vp_nar .char ((((aBy.getD x1.toNatClampNeg 0) &&& 255).toUInt32 % 65536).toInt32) = ((((aBy.getD x1.toNatClampNeg 0) &&& 255).toUInt32 % 65536).toInt32)) (some ((((aBy.getD x1.toNatClampNeg 0) &&& 255).toUInt32 % 65536).toInt32, σ2)))) = some q := h
  show Ev xs L 182 0 [.float 2, .int x1] [] σ (wI q.1) q.2 ∧ Gr q.2
  refine ev_a (fun he => ev_iload rfl rfl he) ?_
  refine ev_a (fun he => ev_aloadF rfl rfl he) ?_
  refine ev_a (fun he => ev_tlen rfl he) ?_
  obtain ⟨y1, σ2, h3, h⟩ := oB_inv h
  obtain ⟨c4, hG5⟩ := T_J0_checkIndex_df160 xs L N x1 (Int32.ofNat 128) σ (y1, σ2) h3 hG
  refine ev_a (fun he => ev_callS (as := [.int x1, .int (Int32.ofNat 128)]) rfl rfl rfl rfl (Nat.le_of_ble_eq_true rfl) (Nat.le_of_ble_eq_true rfl) c4 he) ?_
  refine ev_a (fun he => ev_aloadF rfl rfl he) ?_
  refine ev_a (fun he => ev_iload rfl rfl he) ?_
  obtain ⟨hc6, h⟩ := cO_inv h
  refine ev_a (fun he => ev_tld rfl hc6 he) ?_
  refine ev_a (fun he => ev_push rfl he) ?_
  refine ev_a (fun he => ev_bin (z := (aBy.getD x1.toNatClampNeg 0) &&& 255) rfl rfl he) ?_
  refine ev_a (fun he => ev_un (z := (((aBy.getD x1.toNatClampNeg 0) &&& 255).toUInt32 % 65536).toInt32) rfl rfl he) ?_
  obtain ⟨hc7, h⟩ := cO_inv h
  cases h
  exact ⟨ev_retZ rfl hc7, hG5⟩
def F_J0_charAt_5068e (N : Nat) (x1 : Int32) (σ : aSt) : Option (Int32 × aSt) := oB (F_J0_isLatin1_aae02 N σ) fun y1 σ2 => if y1 = 0 then none else oB (F_J1_charAt_3b067 N x1 σ2) fun y7 σ8 => cO (vp_nar .char y7 = y7) (some (y7, σ8))
set_option maxRecDepth 20000 in
set_option maxHeartbeats 4000000 in
theorem T_J0_charAt_5068e (xs : Nat → Int32) (L : Nat) (N : Nat) (x1 : Int32) (σ : aSt) (q : Int32 × aSt) (h : F_J0_charAt_5068e N x1 σ = some q) (hG : Gr σ) : Cal xs L 178 [.float 1, .int x1] σ (wI q.1) q.2 ∧ Gr q.2 := by
  have h : (oB (F_J0_isLatin1_aae02 N σ) fun y1 σ2 => if y1 = 0 then none else oB (F_J1_charAt_3b067 N x1 σ2) fun y7 σ8 => cO (vp_nar .char y7 = y7) (some (y7, σ8))) = some q := h
  show Ev xs L 178 0 [.float 1, .int x1] [] σ (wI q.1) q.2 ∧ Gr q.2
  refine ev_a (fun he => ev_aloadF rfl rfl he) ?_
  obtain ⟨y1, σ2, h3, h⟩ := oB_inv h
  obtain ⟨c4, hG5⟩ := T_J0_isLatin1_aae02 xs L N σ (y1, σ2) h3 hG
  refine ev_a (fun he => ev_callF (as := []) rfl rfl rfl rfl (Nat.le_of_ble_eq_true rfl) (Nat.le_of_ble_eq_true rfl) c4 he) ?_
  refine ev_b (c := y1 = 0) (fun ht hf => ev_ifeq rfl ht hf) (fun hc6 => ?_) (fun hc6 => ?_)
  · rw [if_pos hc6] at h
    refine ev_a (fun he => ev_aloadF rfl rfl he) ?_
    refine ev_a (fun he => ev_tval rfl he) ?_
    refine ev_a (fun he => ev_iload rfl rfl he) ?_
    exact absurd h (by simp)
  · rw [if_neg hc6] at h
    refine ev_a (fun he => ev_aloadF rfl rfl he) ?_
    refine ev_a (fun he => ev_tval rfl he) ?_
    refine ev_a (fun he => ev_iload rfl rfl he) ?_
    obtain ⟨y7, σ8, h9, h⟩ := oB_inv h
    obtain ⟨c10, hG11⟩ := T_J1_charAt_3b067 xs L N x1 σ2 (y7, σ8) h9 hG5
    refine ev_a (fun he => ev_callS (as := [.float 2, .int x1]) rfl rfl rfl rfl (Nat.le_of_ble_eq_true rfl) (Nat.le_of_ble_eq_true rfl) c10 he) ?_
    obtain ⟨hc12, h⟩ := cO_inv h
    cases h
    exact ⟨ev_retZ rfl hc12, hG11⟩
def J_X8_isTokenTheWord_76 (N : Nat) (σ : aSt) : Option (Int32 × aSt) := cO (vp_nar .boolean 1 = 1) (some (1, σ))
set_option maxRecDepth 20000 in
set_option maxHeartbeats 4000000 in
theorem TJ_X8_isTokenTheWord_76 (xs : Nat → Int32) (L : Nat) (N : Nat) (d0 : Value) (d1 : Value) (d2 : Value) (d3 : Value) (d4 : Value) (σ : aSt) (q : Int32 × aSt) (h : J_X8_isTokenTheWord_76 N  σ = some q) (hG : Gr σ) : Ev xs L 51 76 [d0, d1, d2, d3, d4] [] σ (wI q.1) q.2 ∧ Gr q.2 := by
  have h : (cO (vp_nar .boolean 1 = 1) (some (1, σ))) = some q := h
  refine ev_a (fun he => ev_push rfl he) ?_
  obtain ⟨hc1, h⟩ := cO_inv h
  cases h
  exact ⟨ev_retZ rfl hc1, hG⟩
def J_X8_isTokenTheWord_53 (N : Nat) (k7 : Int32 → Int32 → aSt → Option (Int32 × aSt)) (x2 : Int32) (x3 : Int32) (s0 : Int32) (σ : aSt) : Option (Int32 × aSt) := oB (F_J0_charAt_5068e N (x2 + x3) σ) fun y2 σ3 => if y2 = s0 then k7 x2 (x3 + 1) σ3 else cO (vp_nar .boolean 0 = 0) (some (0, σ3))
set_option maxRecDepth 20000 in
set_option maxHeartbeats 4000000 in
theorem TJ_X8_isTokenTheWord_53 (xs : Nat → Int32) (L : Nat) (N : Nat) (k7 : Int32 → Int32 → aSt → Option (Int32 × aSt)) (hk7 : ∀ (x2 : Int32) (x3 : Int32) (d1 : Value) (d4 : Value) (σ : aSt) (q : Int32 × aSt), k7 x2 x3 σ = some q → Gr σ → Ev xs L 51 7 [.ref 1, d1, .int x2, .int x3, d4] [] σ (wI q.1) q.2 ∧ Gr q.2) (x2 : Int32) (x3 : Int32) (s0 : Int32) (d1 : Value) (d4 : Value) (σ : aSt) (q : Int32 × aSt) (h : J_X8_isTokenTheWord_53 N k7 x2 x3 s0 σ = some q) (hG : Gr σ) : Ev xs L 51 53 [.ref 1, d1, .int x2, .int x3, d4] [.int s0] σ (wI q.1) q.2 ∧ Gr q.2 := by
  have h : (oB (F_J0_charAt_5068e N (x2 + x3) σ) fun y2 σ3 => if y2 = s0 then k7 x2 (x3 + 1) σ3 else cO (vp_nar .boolean 0 = 0) (some (0, σ3))) = some q := h
  refine ev_a (fun he => ev_istore (ls' := [.ref 1, d1, .int x2, .int x3, .int s0]) rfl (Nat.le_of_ble_eq_true rfl) rfl he) ?_
  refine ev_a (fun he => ev_push rfl he) ?_
  refine ev_a (fun he => ev_iload rfl rfl he) ?_
  refine ev_a (fun he => ev_iload rfl rfl he) ?_
  refine ev_a (fun he => ev_bin (z := x2 + x3) rfl rfl he) ?_
  obtain ⟨y2, σ3, h4, h⟩ := oB_inv h
  obtain ⟨c5, hG6⟩ := T_J0_charAt_5068e xs L N (x2 + x3) σ (y2, σ3) h4 hG
  refine ev_a (fun he => ev_callF (as := [.int (x2 + x3)]) rfl rfl rfl rfl (Nat.le_of_ble_eq_true rfl) (Nat.le_of_ble_eq_true rfl) c5 he) ?_
  refine ev_a (fun he => ev_iload rfl rfl he) ?_
  refine ev_b (c := y2 = s0) (fun ht hf => ev_ceq rfl ht hf) (fun hc7 => ?_) (fun hc7 => ?_)
  · rw [if_pos hc7] at h
    refine ev_a (fun he => ev_iinc (ls' := [.ref 1, d1, .int x2, .int (x3 + 1), .int s0]) rfl rfl rfl (Nat.le_of_ble_eq_true rfl) rfl he) ?_
    refine ev_a (fun he => ev_goto rfl he) ?_
    exact hk7 x2 (x3 + 1) (d1) (.int s0) σ3 q h hG6
  · rw [if_neg hc7] at h
    refine ev_a (fun he => ev_push rfl he) ?_
    obtain ⟨hc8, h⟩ := cO_inv h
    cases h
    exact ⟨ev_retZ rfl hc8, hG6⟩
def H_X8_isTokenTheWord_7 (N : Nat) : Nat → Int32 → Int32 → aSt → Option (Int32 × aSt)
  | 0, _, _, _ => none
  | n + 1, x2, x3, σ => if 8 ≤ x3 then J_X8_isTokenTheWord_76 N σ else oB (F_J0_length_8abf5 N σ) fun y10 σ11 => if y10 ≤ (x2 + x3) then J_X8_isTokenTheWord_76 N σ11 else if (aI σ11 1 4) ≤ ((aI σ11 1 5) + x3) then J_X8_isTokenTheWord_53 N (H_X8_isTokenTheWord_7 N n) x2 x3 32 σ11 else cO (¬ (((aI σ11 1 5) + x3) < 0 ∨ 2000 ≤ ((aI σ11 1 5) + x3).toNatClampNeg)) (J_X8_isTokenTheWord_53 N (H_X8_isTokenTheWord_7 N n) x2 x3 (aI σ11 9 ((aI σ11 1 5) + x3).toNatClampNeg) σ11)
set_option maxRecDepth 20000 in
set_option maxHeartbeats 4000000 in
theorem TH_X8_isTokenTheWord_7 (xs : Nat → Int32) (L : Nat) (N : Nat) : ∀ (n : Nat) (x2 : Int32) (x3 : Int32) (d1 : Value) (d4 : Value) (σ : aSt) (q : Int32 × aSt), H_X8_isTokenTheWord_7 N n x2 x3 σ = some q → Gr σ → Ev xs L 51 7 [.ref 1, d1, .int x2, .int x3, d4] [] σ (wI q.1) q.2 ∧ Gr q.2 := by
  intro n
  induction n with
  | zero =>
    intro x2 x3 d1 d4 σ q h hG
    exact absurd (show (none : Option (Int32 × aSt)) = some q from h) (by simp)
  | succ n ih =>
    intro x2 x3 d1 d4 σ q h hG
    have hk7 : ∀ (x2 : Int32) (x3 : Int32) (d1 : Value) (d4 : Value) (σ : aSt) (q : Int32 × aSt), H_X8_isTokenTheWord_7 N n x2 x3 σ = some q → Gr σ → Ev xs L 51 7 [.ref 1, d1, .int x2, .int x3, d4] [] σ (wI q.1) q.2 ∧ Gr q.2 := ih
    have h : (if 8 ≤ x3 then J_X8_isTokenTheWord_76 N σ else oB (F_J0_length_8abf5 N σ) fun y10 σ11 => if y10 ≤ (x2 + x3) then J_X8_isTokenTheWord_76 N σ11 else if (aI σ11 1 4) ≤ ((aI σ11 1 5) + x3) then J_X8_isTokenTheWord_53 N (H_X8_isTokenTheWord_7 N n) x2 x3 32 σ11 else cO (¬ (((aI σ11 1 5) + x3) < 0 ∨ 2000 ≤ ((aI σ11 1 5) + x3).toNatClampNeg)) (J_X8_isTokenTheWord_53 N (H_X8_isTokenTheWord_7 N n) x2 x3 (aI σ11 9 ((aI σ11 1 5) + x3).toNatClampNeg) σ11)) = some q := h
    refine ev_a (fun he => ev_iload rfl rfl he) ?_
    refine ev_a (fun he => ev_push rfl he) ?_
    refine ev_b (c := 8 ≤ x3) (fun ht hf => ev_cge rfl ht hf) (fun hc9 => ?_) (fun hc9 => ?_)
    · rw [if_pos hc9] at h
      exact TJ_X8_isTokenTheWord_76 xs L N (.ref 1) (d1) (.int x2) (.int x3) (d4) σ q h hG
    · rw [if_neg hc9] at h
      refine ev_a (fun he => ev_iload rfl rfl he) ?_
      refine ev_a (fun he => ev_iload rfl rfl he) ?_
      refine ev_a (fun he => ev_bin (z := x2 + x3) rfl rfl he) ?_
      refine ev_a (fun he => ev_push rfl he) ?_
      obtain ⟨y10, σ11, h12, h⟩ := oB_inv h
      obtain ⟨c13, hG14⟩ := T_J0_length_8abf5 xs L N σ (y10, σ11) h12 hG
      refine ev_a (fun he => ev_callF (as := []) rfl rfl rfl rfl (Nat.le_of_ble_eq_true rfl) (Nat.le_of_ble_eq_true rfl) c13 he) ?_
      refine ev_b (c := y10 ≤ (x2 + x3)) (fun ht hf => ev_cge rfl ht hf) (fun hc15 => ?_) (fun hc15 => ?_)
      · rw [if_pos hc15] at h
        exact TJ_X8_isTokenTheWord_76 xs L N (.ref 1) (d1) (.int x2) (.int x3) (d4) σ11 q h hG14
      · rw [if_neg hc15] at h
        refine ev_a (fun he => ev_aload rfl rfl he) ?_
        refine ev_a (fun he => ev_getI rfl (gr_ob (n := 12) hG14 rfl) he) ?_
        refine ev_a (fun he => ev_iload rfl rfl he) ?_
        refine ev_a (fun he => ev_bin (z := (aI σ11 1 5) + x3) rfl rfl he) ?_
        refine ev_a (fun he => ev_aload rfl rfl he) ?_
        refine ev_a (fun he => ev_getI rfl (gr_ob (n := 12) hG14 rfl) he) ?_
        refine ev_b (c := (aI σ11 1 4) ≤ ((aI σ11 1 5) + x3)) (fun ht hf => ev_cge rfl ht hf) (fun hc16 => ?_) (fun hc16 => ?_)
        · rw [if_pos hc16] at h
          refine ev_a (fun he => ev_push rfl he) ?_
          exact TJ_X8_isTokenTheWord_53 xs L N (H_X8_isTokenTheWord_7 N n) hk7 x2 x3 32 (d1) (d4) σ11 q h hG14
        · rw [if_neg hc16] at h
          refine ev_a (fun he => ev_aload rfl rfl he) ?_
          refine ev_a (fun he => ev_getR rfl (gr_ob (n := 12) hG14 rfl) (gr_p (a := 1) (k := 3) (b := 9) hG14 rfl) he) ?_
          refine ev_a (fun he => ev_aload rfl rfl he) ?_
          refine ev_a (fun he => ev_getI rfl (gr_ob (n := 12) hG14 rfl) he) ?_
          refine ev_a (fun he => ev_iload rfl rfl he) ?_
          refine ev_a (fun he => ev_bin (z := (aI σ11 1 5) + x3) rfl rfl he) ?_
          obtain ⟨hc17, h⟩ := cO_inv h
          refine ev_a (fun he => ev_aldI (k := ((aI σ11 1 5) + x3).toNatClampNeg) rfl (gr_ar hG14 rfl) hc17 rfl he) ?_
          refine ev_a (fun he => ev_goto rfl he) ?_
          exact TJ_X8_isTokenTheWord_53 xs L N (H_X8_isTokenTheWord_7 N n) hk7 x2 x3 (aI σ11 9 ((aI σ11 1 5) + x3).toNatClampNeg) (d1) (d4) σ11 q h hG14
def F_X8_isTokenTheWord (N : Nat) (x1 : Int32) (σ : aSt) : Option (Int32 × aSt) := H_X8_isTokenTheWord_7 N N (x1 * 8) 0 σ
set_option maxRecDepth 20000 in
set_option maxHeartbeats 4000000 in
theorem T_X8_isTokenTheWord (xs : Nat → Int32) (L : Nat) (N : Nat) (x1 : Int32) (σ : aSt) (q : Int32 × aSt) (h : F_X8_isTokenTheWord N x1 σ = some q) (hG : Gr σ) : Cal xs L 51 [.ref 1, .int x1] σ (wI q.1) q.2 ∧ Gr q.2 := by
  have h : (H_X8_isTokenTheWord_7 N N (x1 * 8) 0 σ) = some q := h
  show Ev xs L 51 0 [.ref 1, .int x1, aU, aU, aU] [] σ (wI q.1) q.2 ∧ Gr q.2
  refine ev_a (fun he => ev_iload rfl rfl he) ?_
  refine ev_a (fun he => ev_push rfl he) ?_
  refine ev_a (fun he => ev_bin (z := x1 * 8) rfl rfl he) ?_
  refine ev_a (fun he => ev_istore (ls' := [.ref 1, .int x1, .int (x1 * 8), aU, aU]) rfl (Nat.le_of_ble_eq_true rfl) rfl he) ?_
  refine ev_a (fun he => ev_push rfl he) ?_
  refine ev_a (fun he => ev_istore (ls' := [.ref 1, .int x1, .int (x1 * 8), .int 0, aU]) rfl (Nat.le_of_ble_eq_true rfl) rfl he) ?_
  exact TH_X8_isTokenTheWord_7 xs L N N (x1 * 8) 0 (.int x1) (aU) σ q h hG
def H_X8_wordToken_58 (N : Nat) : Nat → Int32 → aSt → Option (Int32 × aSt)
  | 0, _, _ => none
  | n + 1, x1, σ => if 16 ≤ x1 then some (26, σ) else oB (F_X8_isTokenTheWord N x1 σ) fun y2 σ3 => if y2 = 0 then (H_X8_wordToken_58 N n) (x1 + 1) σ3 else some (x1, σ3)
set_option maxRecDepth 20000 in
set_option maxHeartbeats 4000000 in
theorem TH_X8_wordToken_58 (xs : Nat → Int32) (L : Nat) (N : Nat) : ∀ (n : Nat) (x1 : Int32) (σ : aSt) (q : Int32 × aSt), H_X8_wordToken_58 N n x1 σ = some q → Gr σ → Ev xs L 50 58 [.ref 1, .int x1] [] σ (wI q.1) q.2 ∧ Gr q.2 := by
  intro n
  induction n with
  | zero =>
    intro x1 σ q h hG
    exact absurd (show (none : Option (Int32 × aSt)) = some q from h) (by simp)
  | succ n ih =>
    intro x1 σ q h hG
    have hk58 : ∀ (x1 : Int32) (σ : aSt) (q : Int32 × aSt), H_X8_wordToken_58 N n x1 σ = some q → Gr σ → Ev xs L 50 58 [.ref 1, .int x1] [] σ (wI q.1) q.2 ∧ Gr q.2 := ih
    have h : (if 16 ≤ x1 then some (26, σ) else oB (F_X8_isTokenTheWord N x1 σ) fun y2 σ3 => if y2 = 0 then (H_X8_wordToken_58 N n) (x1 + 1) σ3 else some (x1, σ3)) = some q := h
    refine ev_a (fun he => ev_iload rfl rfl he) ?_
    refine ev_a (fun he => ev_push rfl he) ?_
    refine ev_b (c := 16 ≤ x1) (fun ht hf => ev_cge rfl ht hf) (fun hc1 => ?_) (fun hc1 => ?_)
    · rw [if_pos hc1] at h
      refine ev_a (fun he => ev_push rfl he) ?_
      cases h
      exact ⟨ev_retI rfl, hG⟩
    · rw [if_neg hc1] at h
      refine ev_a (fun he => ev_aload rfl rfl he) ?_
      refine ev_a (fun he => ev_iload rfl rfl he) ?_
      obtain ⟨y2, σ3, h4, h⟩ := oB_inv h
      obtain ⟨c5, hG6⟩ := T_X8_isTokenTheWord xs L N x1 σ (y2, σ3) h4 hG
      refine ev_a (fun he => ev_callV (as := [.int x1]) rfl (gr_ob (n := 12) hG rfl) rfl rfl rfl (Nat.le_of_ble_eq_true rfl) (Nat.le_of_ble_eq_true rfl) c5 he) ?_
      refine ev_b (c := y2 = 0) (fun ht hf => ev_ifeq rfl ht hf) (fun hc7 => ?_) (fun hc7 => ?_)
      · rw [if_pos hc7] at h
        refine ev_a (fun he => ev_iinc (ls' := [.ref 1, .int (x1 + 1)]) rfl rfl rfl (Nat.le_of_ble_eq_true rfl) rfl he) ?_
        refine ev_a (fun he => ev_goto rfl he) ?_
        exact hk58 (x1 + 1) σ3 q h hG6
      · rw [if_neg hc7] at h
        refine ev_a (fun he => ev_iload rfl rfl he) ?_
        cases h
        exact ⟨ev_retI rfl, hG6⟩
def J_X8_wordToken_39 (N : Nat) (σ : aSt) : Option (Int32 × aSt) := if ((aI σ 1 4) - (aI σ 1 5)) ≤ 8 then H_X8_wordToken_58 N N 0 σ else some (26, σ)
set_option maxRecDepth 20000 in
set_option maxHeartbeats 4000000 in
theorem TJ_X8_wordToken_39 (xs : Nat → Int32) (L : Nat) (N : Nat) (d1 : Value) (σ : aSt) (q : Int32 × aSt) (h : J_X8_wordToken_39 N  σ = some q) (hG : Gr σ) : Ev xs L 50 39 [.ref 1, d1] [] σ (wI q.1) q.2 ∧ Gr q.2 := by
  have h : (if ((aI σ 1 4) - (aI σ 1 5)) ≤ 8 then H_X8_wordToken_58 N N 0 σ else some (26, σ)) = some q := h
  refine ev_a (fun he => ev_aload rfl rfl he) ?_
  refine ev_a (fun he => ev_getI rfl (gr_ob (n := 12) hG rfl) he) ?_
  refine ev_a (fun he => ev_aload rfl rfl he) ?_
  refine ev_a (fun he => ev_getI rfl (gr_ob (n := 12) hG rfl) he) ?_
  refine ev_a (fun he => ev_bin (z := (aI σ 1 4) - (aI σ 1 5)) rfl rfl he) ?_
  refine ev_a (fun he => ev_push rfl he) ?_
  refine ev_b (c := ((aI σ 1 4) - (aI σ 1 5)) ≤ 8) (fun ht hf => ev_cle rfl ht hf) (fun hc8 => ?_) (fun hc8 => ?_)
  · rw [if_pos hc8] at h
    refine ev_a (fun he => ev_push rfl he) ?_
    refine ev_a (fun he => ev_istore (ls' := [.ref 1, .int 0]) rfl (Nat.le_of_ble_eq_true rfl) rfl he) ?_
    exact TH_X8_wordToken_58 xs L N N 0 σ q h hG
  · rw [if_neg hc8] at h
    refine ev_a (fun he => ev_push rfl he) ?_
    cases h
    exact ⟨ev_retI rfl, hG⟩
def H_X8_wordToken_0 (N : Nat) : Nat → aSt → Option (Int32 × aSt)
  | 0, _ => none
  | n + 1, σ => if (aI σ 1 0) ≤ (aI σ 1 4) then J_X8_wordToken_39 N σ else cO (¬ ((aI σ 1 4) < 0 ∨ 2000 ≤ (aI σ 1 4).toNatClampNeg)) (oB (F_X8_isLetter N (aI σ 9 (aI σ 1 4).toNatClampNeg) σ) fun y11 σ12 => if y11 = 0 then J_X8_wordToken_39 N σ12 else lt (aWI σ12 1 4 ((aI σ12 1 4) + 1)) fun σ17 => (H_X8_wordToken_0 N n) σ17)
set_option maxRecDepth 20000 in
set_option maxHeartbeats 4000000 in
theorem TH_X8_wordToken_0 (xs : Nat → Int32) (L : Nat) (N : Nat) : ∀ (n : Nat) (d1 : Value) (σ : aSt) (q : Int32 × aSt), H_X8_wordToken_0 N n  σ = some q → Gr σ → Ev xs L 50 0 [.ref 1, d1] [] σ (wI q.1) q.2 ∧ Gr q.2 := by
  intro n
  induction n with
  | zero =>
    intro d1 σ q h hG
    exact absurd (show (none : Option (Int32 × aSt)) = some q from h) (by simp)
  | succ n ih =>
    intro d1 σ q h hG
    have hk0 : ∀ (d1 : Value) (σ : aSt) (q : Int32 × aSt), H_X8_wordToken_0 N n  σ = some q → Gr σ → Ev xs L 50 0 [.ref 1, d1] [] σ (wI q.1) q.2 ∧ Gr q.2 := ih
    have h : (if (aI σ 1 0) ≤ (aI σ 1 4) then J_X8_wordToken_39 N σ else cO (¬ ((aI σ 1 4) < 0 ∨ 2000 ≤ (aI σ 1 4).toNatClampNeg)) (oB (F_X8_isLetter N (aI σ 9 (aI σ 1 4).toNatClampNeg) σ) fun y11 σ12 => if y11 = 0 then J_X8_wordToken_39 N σ12 else lt (aWI σ12 1 4 ((aI σ12 1 4) + 1)) fun σ17 => (H_X8_wordToken_0 N n) σ17)) = some q := h
    refine ev_a (fun he => ev_aload rfl rfl he) ?_
    refine ev_a (fun he => ev_getI rfl (gr_ob (n := 12) hG rfl) he) ?_
    refine ev_a (fun he => ev_aload rfl rfl he) ?_
    refine ev_a (fun he => ev_getI rfl (gr_ob (n := 12) hG rfl) he) ?_
    refine ev_b (c := (aI σ 1 0) ≤ (aI σ 1 4)) (fun ht hf => ev_cge rfl ht hf) (fun hc9 => ?_) (fun hc9 => ?_)
    · rw [if_pos hc9] at h
      exact TJ_X8_wordToken_39 xs L N (d1) σ q h hG
    · rw [if_neg hc9] at h
      refine ev_a (fun he => ev_aload rfl rfl he) ?_
      refine ev_a (fun he => ev_getR rfl (gr_ob (n := 12) hG rfl) (gr_p (a := 1) (k := 3) (b := 9) hG rfl) he) ?_
      refine ev_a (fun he => ev_aload rfl rfl he) ?_
      refine ev_a (fun he => ev_getI rfl (gr_ob (n := 12) hG rfl) he) ?_
      obtain ⟨hc10, h⟩ := cO_inv h
      refine ev_a (fun he => ev_aldI (k := (aI σ 1 4).toNatClampNeg) rfl (gr_ar hG rfl) hc10 rfl he) ?_
      obtain ⟨y11, σ12, h13, h⟩ := oB_inv h
      obtain ⟨c14, hG15⟩ := T_X8_isLetter xs L N (aI σ 9 (aI σ 1 4).toNatClampNeg) σ (y11, σ12) h13 hG
      refine ev_a (fun he => ev_callS (as := [.int (aI σ 9 (aI σ 1 4).toNatClampNeg)]) rfl rfl rfl rfl (Nat.le_of_ble_eq_true rfl) (Nat.le_of_ble_eq_true rfl) c14 he) ?_
      refine ev_b (c := y11 = 0) (fun ht hf => ev_ifeq rfl ht hf) (fun hc16 => ?_) (fun hc16 => ?_)
      · rw [if_pos hc16] at h
        exact TJ_X8_wordToken_39 xs L N (d1) σ12 q h hG15
      · rw [if_neg hc16] at h
        refine ev_a (fun he => ev_aload rfl rfl he) ?_
        refine ev_a (fun he => ev_dupR rfl he) ?_
        refine ev_a (fun he => ev_getI rfl (gr_ob (n := 12) hG15 rfl) he) ?_
        refine ev_a (fun he => ev_push rfl he) ?_
        refine ev_a (fun he => ev_bin (z := (aI σ12 1 4) + 1) rfl rfl he) ?_
        obtain ⟨σ17, e18, h⟩ := lt_inv h
        have hG19 : Gr σ17 := gr_wi e18 hG15
        refine ev_a (fun he => ev_putI rfl (gr_ob (n := 12) hG15 rfl) e18 he) ?_
        refine ev_a (fun he => ev_goto rfl he) ?_
        exact hk0 (d1) σ17 q h hG19
def F_X8_wordToken (N : Nat) (σ : aSt) : Option (Int32 × aSt) := H_X8_wordToken_0 N N σ
set_option maxRecDepth 20000 in
set_option maxHeartbeats 4000000 in
theorem T_X8_wordToken (xs : Nat → Int32) (L : Nat) (N : Nat) (σ : aSt) (q : Int32 × aSt) (h : F_X8_wordToken N σ = some q) (hG : Gr σ) : Cal xs L 50 [.ref 1] σ (wI q.1) q.2 ∧ Gr q.2 := by
  have h : (H_X8_wordToken_0 N N σ) = some q := h
  show Ev xs L 50 0 [.ref 1, aU] [] σ (wI q.1) q.2 ∧ Gr q.2
  exact TH_X8_wordToken_0 xs L N N (aU) σ q h hG
