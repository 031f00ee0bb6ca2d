def J_X12_relation_54 (N : Nat) (x1 : Int32) (x2 : Int32) (x3 : Int32) (σ : aSt) : Option (Unit × aSt) := oB (F_X12_next N σ) fun y1 σ2 => oB (F_X12_expression N σ2) fun y6 σ7 => if (aI σ7 235 13) ≤ 0 then cO (¬ ((aI σ7 235 19) < 0 ∨ 14 ≤ (aI σ7 235 19).toNatClampNeg)) (cO (¬ (((200 * (aI σ7 235 19)) + (aI σ7 250 (aI σ7 235 19).toNatClampNeg)) < 0 ∨ 2800 ≤ ((200 * (aI σ7 235 19)) + (aI σ7 250 (aI σ7 235 19).toNatClampNeg)).toNatClampNeg)) (lt (aWI σ7 251 ((200 * (aI σ7 235 19)) + (aI σ7 250 (aI σ7 235 19).toNatClampNeg)).toNatClampNeg x3) fun σ14 => cO (¬ (((200 * (aI σ7 235 19)) + (aI σ7 250 (aI σ7 235 19).toNatClampNeg)) < 0 ∨ 2800 ≤ ((200 * (aI σ7 235 19)) + (aI σ7 250 (aI σ7 235 19).toNatClampNeg)).toNatClampNeg)) (lt (aWI σ14 252 ((200 * (aI σ7 235 19)) + (aI σ7 250 (aI σ7 235 19).toNatClampNeg)).toNatClampNeg x2) fun σ18 => cO (¬ (((200 * (aI σ7 235 19)) + (aI σ7 250 (aI σ7 235 19).toNatClampNeg)) < 0 ∨ 2800 ≤ ((200 * (aI σ7 235 19)) + (aI σ7 250 (aI σ7 235 19).toNatClampNeg)).toNatClampNeg)) (lt (aWI σ18 253 ((200 * (aI σ7 235 19)) + (aI σ7 250 (aI σ7 235 19).toNatClampNeg)).toNatClampNeg (aI σ2 235 32)) fun σ22 => cO (¬ (((200 * (aI σ7 235 19)) + (aI σ7 250 (aI σ7 235 19).toNatClampNeg)) < 0 ∨ 2800 ≤ ((200 * (aI σ7 235 19)) + (aI σ7 250 (aI σ7 235 19).toNatClampNeg)).toNatClampNeg)) (lt (aWI σ22 254 ((200 * (aI σ7 235 19)) + (aI σ7 250 (aI σ7 235 19).toNatClampNeg)).toNatClampNeg (aI σ22 235 32)) fun σ26 => cO (¬ (((200 * (aI σ7 235 19)) + (aI σ7 250 (aI σ7 235 19).toNatClampNeg)) < 0 ∨ 2800 ≤ ((200 * (aI σ7 235 19)) + (aI σ7 250 (aI σ7 235 19).toNatClampNeg)).toNatClampNeg)) (lt (aWI σ26 255 ((200 * (aI σ7 235 19)) + (aI σ7 250 (aI σ7 235 19).toNatClampNeg)).toNatClampNeg (vp_nar .boolean x1)) fun σ30 => cO (¬ ((aI σ30 235 19) < 0 ∨ 14 ≤ (aI σ30 235 19).toNatClampNeg)) (cO (¬ ((aI σ30 235 19) < 0 ∨ 14 ≤ (aI σ30 235 19).toNatClampNeg)) (lt (aWI σ30 250 (aI σ30 235 19).toNatClampNeg ((aI σ30 250 (aI σ30 235 19).toNatClampNeg) + 1)) fun σ35 => some ((), σ35))))))))) else some ((), σ7)
set_option maxRecDepth 20000 in
set_option maxHeartbeats 4000000 in
theorem TJ_X12_relation_54 (xs : Nat → Int32) (L : Nat) (N : Nat) (x1 : Int32) (x2 : Int32) (x3 : Int32) (d4 : Value) (d5 : Value) (σ : aSt) (q : Unit × aSt) (h : J_X12_relation_54 N x1 x2 x3 σ = some q) (hG : Gr σ) : Ev xs L 136 54 [.ref 235, .int x1, .int x2, .int x3, d4, d5] [] σ (wV q.1) q.2 ∧ Gr q.2 := by
  have h : (oB (F_X12_next N σ) fun y1 σ2 => oB (F_X12_expression N σ2) fun y6 σ7 => if (aI σ7 235 13) ≤ 0 then cO (¬ ((aI σ7 235 19) < 0 ∨ 14 ≤ (aI σ7 235 19).toNatClampNeg)) (cO (¬ (((200 * (aI σ7 235 19)) + (aI σ7 250 (aI σ7 235 19).toNatClampNeg)) < 0 ∨ 2800 ≤ ((200 * (aI σ7 235 19)) + (aI σ7 250 (aI σ7 235 19).toNatClampNeg)).toNatClampNeg)) (lt (aWI σ7 251 ((200 * (aI σ7 235 19)) + (aI σ7 250 (aI σ7 235 19).toNatClampNeg)).toNatClampNeg x3) fun σ14 => cO (¬ (((200 * (aI σ7 235 19)) + (aI σ7 250 (aI σ7 235 19).toNatClampNeg)) < 0 ∨ 2800 ≤ ((200 * (aI σ7 235 19)) + (aI σ7 250 (aI σ7 235 19).toNatClampNeg)).toNatClampNeg)) (lt (aWI σ14 252 ((200 * (aI σ7 235 19)) + (aI σ7 250 (aI σ7 235 19).toNatClampNeg)).toNatClampNeg x2) fun σ18 => cO (¬ (((200 * (aI σ7 235 19)) + (aI σ7 250 (aI σ7 235 19).toNatClampNeg)) < 0 ∨ 2800 ≤ ((200 * (aI σ7 235 19)) + (aI σ7 250 (aI σ7 235 19).toNatClampNeg)).toNatClampNeg)) (lt (aWI σ18 253 ((200 * (aI σ7 235 19)) + (aI σ7 250 (aI σ7 235 19).toNatClampNeg)).toNatClampNeg (aI σ2 235 32)) fun σ22 => cO (¬ (((200 * (aI σ7 235 19)) + (aI σ7 250 (aI σ7 235 19).toNatClampNeg)) < 0 ∨ 2800 ≤ ((200 * (aI σ7 235 19)) + (aI σ7 250 (aI σ7 235 19).toNatClampNeg)).toNatClampNeg)) (lt (aWI σ22 254 ((200 * (aI σ7 235 19)) + (aI σ7 250 (aI σ7 235 19).toNatClampNeg)).toNatClampNeg (aI σ22 235 32)) fun σ26 => cO (¬ (((200 * (aI σ7 235 19)) + (aI σ7 250 (aI σ7 235 19).toNatClampNeg)) < 0 ∨ 2800 ≤ ((200 * (aI σ7 235 19)) + (aI σ7 250 (aI σ7 235 19).toNatClampNeg)).toNatClampNeg)) (lt (aWI σ26 255 ((200 * (aI σ7 235 19)) + (aI σ7 250 (aI σ7 235 19).toNatClampNeg)).toNatClampNeg (vp_nar .boolean x1)) fun σ30 => cO (¬ ((aI σ30 235 19) < 0 ∨ 14 ≤ (aI σ30 235 19).toNatClampNeg)) (cO (¬ ((aI σ30 235 19) < 0 ∨ 14 ≤ (aI σ30 235 19).toNatClampNeg)) (lt (aWI σ30 250 (aI σ30 235 19).toNatClampNeg ((aI σ30 250 (aI σ30 235 19).toNatClampNeg) + 1)) fun σ35 => some ((), σ35))))))))) else some ((), σ7)) = some q := h
  refine ev_a (fun he => ev_aload rfl rfl he) ?_
  obtain ⟨y1, σ2, h3, h⟩ := oB_inv h
  obtain ⟨c4, hG5⟩ := T_X12_next xs L N σ (y1, σ2) h3 hG
  refine ev_a (fun he => ev_callV (as := []) rfl (gr_ob (n := 80) hG rfl) rfl rfl rfl (Nat.le_of_ble_eq_true rfl) (Nat.le_of_ble_eq_true rfl) c4 he) ?_
  refine ev_a (fun he => ev_aload rfl rfl he) ?_
  refine ev_a (fun he => ev_getI rfl (gr_ob (n := 80) hG5 rfl) he) ?_
  refine ev_a (fun he => ev_istore (ls' := [.ref 235, .int x1, .int x2, .int x3, .int (aI σ2 235 32), d5]) rfl (Nat.le_of_ble_eq_true rfl) rfl he) ?_
  refine ev_a (fun he => ev_aload rfl rfl he) ?_
  obtain ⟨y6, σ7, h8, h⟩ := oB_inv h
  obtain ⟨c9, hG10⟩ := T_X12_expression xs L N σ2 (y6, σ7) h8 hG5
  refine ev_a (fun he => ev_callV (as := []) rfl (gr_ob (n := 80) hG5 rfl) rfl rfl rfl (Nat.le_of_ble_eq_true rfl) (Nat.le_of_ble_eq_true rfl) c9 he) ?_
  refine ev_a (fun he => ev_aload rfl rfl he) ?_
  refine ev_a (fun he => ev_getI rfl (gr_ob (n := 80) hG10 rfl) he) ?_
  refine ev_b (c := (aI σ7 235 13) ≤ 0) (fun ht hf => ev_ifle rfl ht hf) (fun hc11 => ?_) (fun hc11 => ?_)
  · rw [if_pos hc11] at h
    refine ev_a (fun he => ev_push rfl he) ?_
    refine ev_a (fun he => ev_aload rfl rfl he) ?_
    refine ev_a (fun he => ev_getI rfl (gr_ob (n := 80) hG10 rfl) he) ?_
    refine ev_a (fun he => ev_bin (z := 200 * (aI σ7 235 19)) rfl rfl he) ?_
    refine ev_a (fun he => ev_aload rfl rfl he) ?_
    refine ev_a (fun he => ev_getR rfl (gr_ob (n := 80) hG10 rfl) (gr_p (a := 235) (k := 26) (b := 250) hG10 rfl) he) ?_
    refine ev_a (fun he => ev_aload rfl rfl he) ?_
    refine ev_a (fun he => ev_getI rfl (gr_ob (n := 80) hG10 rfl) he) ?_
    obtain ⟨hc12, h⟩ := cO_inv h
    refine ev_a (fun he => ev_aldI (k := (aI σ7 235 19).toNatClampNeg) rfl (gr_ar hG10 rfl) hc12 rfl he) ?_
    refine ev_a (fun he => ev_bin (z := (200 * (aI σ7 235 19)) + (aI σ7 250 (aI σ7 235 19).toNatClampNeg)) rfl rfl he) ?_
    refine ev_a (fun he => ev_istore (ls' := [.ref 235, .int x1, .int x2, .int x3, .int (aI σ2 235 32), .int ((200 * (aI σ7 235 19)) + (aI σ7 250 (aI σ7 235 19).toNatClampNeg))]) rfl (Nat.le_of_ble_eq_true rfl) rfl he) ?_
    refine ev_a (fun he => ev_aload rfl rfl he) ?_
    refine ev_a (fun he => ev_getR rfl (gr_ob (n := 80) hG10 rfl) (gr_p (a := 235) (k := 27) (b := 251) hG10 rfl) he) ?_
    refine ev_a (fun he => ev_iload rfl rfl he) ?_
    refine ev_a (fun he => ev_iload rfl rfl he) ?_
    obtain ⟨hc13, h⟩ := cO_inv h
    obtain ⟨σ14, e15, h⟩ := lt_inv h
    have hG16 : Gr σ14 := gr_wi e15 hG10
    refine ev_a (fun he => ev_astI (k := ((200 * (aI σ7 235 19)) + (aI σ7 250 (aI σ7 235 19).toNatClampNeg)).toNatClampNeg) rfl (gr_ar hG10 rfl) hc13 rfl rfl e15 he) ?_
    refine ev_a (fun he => ev_aload rfl rfl he) ?_
    refine ev_a (fun he => ev_getR rfl (gr_ob (n := 80) hG16 rfl) (gr_p (a := 235) (k := 28) (b := 252) hG16 rfl) he) ?_
    refine ev_a (fun he => ev_iload rfl rfl he) ?_
    refine ev_a (fun he => ev_iload rfl rfl he) ?_
    obtain ⟨hc17, h⟩ := cO_inv h
    obtain ⟨σ18, e19, h⟩ := lt_inv h
    have hG20 : Gr σ18 := gr_wi e19 hG16
    refine ev_a (fun he => ev_astI (k := ((200 * (aI σ7 235 19)) + (aI σ7 250 (aI σ7 235 19).toNatClampNeg)).toNatClampNeg) rfl (gr_ar hG16 rfl) hc17 rfl rfl e19 he) ?_
    refine ev_a (fun he => ev_aload rfl rfl he) ?_
    refine ev_a (fun he => ev_getR rfl (gr_ob (n := 80) hG20 rfl) (gr_p (a := 235) (k := 29) (b := 253) hG20 rfl) he) ?_
    refine ev_a (fun he => ev_iload rfl rfl he) ?_
    refine ev_a (fun he => ev_iload rfl rfl he) ?_
    obtain ⟨hc21, h⟩ := cO_inv h
    obtain ⟨σ22, e23, h⟩ := lt_inv h
    have hG24 : Gr σ22 := gr_wi e23 hG20
    refine ev_a (fun he => ev_astI (k := ((200 * (aI σ7 235 19)) + (aI σ7 250 (aI σ7 235 19).toNatClampNeg)).toNatClampNeg) rfl (gr_ar hG20 rfl) hc21 rfl rfl e23 he) ?_
    refine ev_a (fun he => ev_aload rfl rfl he) ?_
    refine ev_a (fun he => ev_getR rfl (gr_ob (n := 80) hG24 rfl) (gr_p (a := 235) (k := 30) (b := 254) hG24 rfl) he) ?_
    refine ev_a (fun he => ev_iload rfl rfl he) ?_
    refine ev_a (fun he => ev_aload rfl rfl he) ?_
    refine ev_a (fun he => ev_getI rfl (gr_ob (n := 80) hG24 rfl) he) ?_
    obtain ⟨hc25, h⟩ := cO_inv h
    obtain ⟨σ26, e27, h⟩ := lt_inv h
    have hG28 : Gr σ26 := gr_wi e27 hG24
    refine ev_a (fun he => ev_astI (k := ((200 * (aI σ7 235 19)) + (aI σ7 250 (aI σ7 235 19).toNatClampNeg)).toNatClampNeg) rfl (gr_ar hG24 rfl) hc25 rfl rfl e27 he) ?_
    refine ev_a (fun he => ev_aload rfl rfl he) ?_
    refine ev_a (fun he => ev_getR rfl (gr_ob (n := 80) hG28 rfl) (gr_p (a := 235) (k := 31) (b := 255) hG28 rfl) he) ?_
    refine ev_a (fun he => ev_iload rfl rfl he) ?_
    refine ev_a (fun he => ev_iload rfl rfl he) ?_
    obtain ⟨hc29, h⟩ := cO_inv h
    obtain ⟨σ30, e31, h⟩ := lt_inv h
    have hG32 : Gr σ30 := gr_wi e31 hG28
    refine ev_a (fun he => ev_astI (k := ((200 * (aI σ7 235 19)) + (aI σ7 250 (aI σ7 235 19).toNatClampNeg)).toNatClampNeg) rfl (gr_ar hG28 rfl) hc29 rfl rfl e31 he) ?_
    refine ev_a (fun he => ev_aload rfl rfl he) ?_
    refine ev_a (fun he => ev_getR rfl (gr_ob (n := 80) hG32 rfl) (gr_p (a := 235) (k := 26) (b := 250) hG32 rfl) he) ?_
    refine ev_a (fun he => ev_aload rfl rfl he) ?_
    refine ev_a (fun he => ev_getI rfl (gr_ob (n := 80) hG32 rfl) he) ?_
    refine ev_a (fun he => ev_dup2 rfl he) ?_
    obtain ⟨hc33, h⟩ := cO_inv h
    refine ev_a (fun he => ev_aldI (k := (aI σ30 235 19).toNatClampNeg) rfl (gr_ar hG32 rfl) hc33 rfl he) ?_
    refine ev_a (fun he => ev_push rfl he) ?_
    refine ev_a (fun he => ev_bin (z := (aI σ30 250 (aI σ30 235 19).toNatClampNeg) + 1) rfl rfl he) ?_
    obtain ⟨hc34, h⟩ := cO_inv h
    obtain ⟨σ35, e36, h⟩ := lt_inv h
    have hG37 : Gr σ35 := gr_wi e36 hG32
    refine ev_a (fun he => ev_astI (k := (aI σ30 235 19).toNatClampNeg) rfl (gr_ar hG32 rfl) hc34 rfl rfl e36 he) ?_
    cases h
    exact ⟨ev_retV rfl, hG37⟩
  · rw [if_neg hc11] at h
    cases h
    exact ⟨ev_retV rfl, hG10⟩
def J_X12_relation_49 (N : Nat) (x1 : Int32) (x2 : Int32) (x3 : Int32) (σ : aSt) : Option (Unit × aSt) := oB (F_X12_fail N 1 σ) fun y38 σ39 => J_X12_relation_54 N x1 x2 x3 σ39
set_option maxRecDepth 20000 in
set_option maxHeartbeats 4000000 in
theorem TJ_X12_relation_49 (xs : Nat → Int32) (L : Nat) (N : Nat) (x1 : Int32) (x2 : Int32) (x3 : Int32) (d4 : Value) (d5 : Value) (σ : aSt) (q : Unit × aSt) (h : J_X12_relation_49 N x1 x2 x3 σ = some q) (hG : Gr σ) : Ev xs L 136 49 [.ref 235, .int x1, .int x2, .int x3, d4, d5] [] σ (wV q.1) q.2 ∧ Gr q.2 := by
  have h : (oB (F_X12_fail N 1 σ) fun y38 σ39 => J_X12_relation_54 N x1 x2 x3 σ39) = some q := h
  refine ev_a (fun he => ev_aload rfl rfl he) ?_
  refine ev_a (fun he => ev_push rfl he) ?_
  obtain ⟨y38, σ39, h40, h⟩ := oB_inv h
  obtain ⟨c41, hG42⟩ := T_X12_fail xs L N 1 σ (y38, σ39) h40 hG
  refine ev_a (fun he => ev_callV (as := [.int 1]) rfl (gr_ob (n := 80) hG rfl) rfl rfl rfl (Nat.le_of_ble_eq_true rfl) (Nat.le_of_ble_eq_true rfl) c41 he) ?_
  exact TJ_X12_relation_54 xs L N x1 x2 x3 (d4) (d5) σ39 q h hG42
def J_X12_relation_32 (N : Nat) (x1 : Int32) (x2 : Int32) (s0 : Int32) (σ : aSt) : Option (Unit × aSt) := if (aI σ 235 13) ≠ 0 then J_X12_relation_54 N x1 x2 s0 σ else if s0 < 0 then J_X12_relation_49 N x1 x2 s0 σ else if s0 ≤ 3 then J_X12_relation_54 N x1 x2 s0 σ else J_X12_relation_49 N x1 x2 s0 σ
set_option maxRecDepth 20000 in
set_option maxHeartbeats 4000000 in
theorem TJ_X12_relation_32 (xs : Nat → Int32) (L : Nat) (N : Nat) (x1 : Int32) (x2 : Int32) (s0 : Int32) (d3 : Value) (d4 : Value) (d5 : Value) (σ : aSt) (q : Unit × aSt) (h : J_X12_relation_32 N x1 x2 s0 σ = some q) (hG : Gr σ) : Ev xs L 136 32 [.ref 235, .int x1, .int x2, d3, d4, d5] [.int s0] σ (wV q.1) q.2 ∧ Gr q.2 := by
  have h : (if (aI σ 235 13) ≠ 0 then J_X12_relation_54 N x1 x2 s0 σ else if s0 < 0 then J_X12_relation_49 N x1 x2 s0 σ else if s0 ≤ 3 then J_X12_relation_54 N x1 x2 s0 σ else J_X12_relation_49 N x1 x2 s0 σ) = some q := h
  refine ev_a (fun he => ev_istore (ls' := [.ref 235, .int x1, .int x2, .int s0, d4, d5]) rfl (Nat.le_of_ble_eq_true rfl) rfl he) ?_
  refine ev_a (fun he => ev_aload rfl rfl he) ?_
  refine ev_a (fun he => ev_getI rfl (gr_ob (n := 80) hG rfl) he) ?_
  refine ev_b (c := (aI σ 235 13) ≠ 0) (fun ht hf => ev_ifne rfl ht hf) (fun hc43 => ?_) (fun hc43 => ?_)
  · rw [if_pos hc43] at h
    exact TJ_X12_relation_54 xs L N x1 x2 s0 (d4) (d5) σ q h hG
  · rw [if_neg hc43] at h
    refine ev_a (fun he => ev_iload rfl rfl he) ?_
    refine ev_b (c := s0 < 0) (fun ht hf => ev_iflt rfl ht hf) (fun hc44 => ?_) (fun hc44 => ?_)
    · rw [if_pos hc44] at h
      exact TJ_X12_relation_49 xs L N x1 x2 s0 (d4) (d5) σ q h hG
    · rw [if_neg hc44] at h
      refine ev_a (fun he => ev_iload rfl rfl he) ?_
      refine ev_a (fun he => ev_push rfl he) ?_
      refine ev_b (c := s0 ≤ 3) (fun ht hf => ev_cle rfl ht hf) (fun hc45 => ?_) (fun hc45 => ?_)
      · rw [if_pos hc45] at h
        exact TJ_X12_relation_54 xs L N x1 x2 s0 (d4) (d5) σ q h hG
      · rw [if_neg hc45] at h
        exact TJ_X12_relation_49 xs L N x1 x2 s0 (d4) (d5) σ q h hG
def F_X12_relation (N : Nat) (x1 : Int32) (σ : aSt) : Option (Unit × aSt) := oB (F_X12_expression N σ) fun y46 σ47 => if (aI σ47 235 13) ≤ 0 then cO (¬ ((aI σ47 235 11) < 0 ∨ 403 ≤ (aI σ47 235 11).toNatClampNeg)) (J_X12_relation_32 N x1 (aI σ 235 32) ((aI σ47 238 (aI σ47 235 11).toNatClampNeg) - 11) σ47) else J_X12_relation_32 N x1 (aI σ 235 32) 0 σ47
set_option maxRecDepth 20000 in
set_option maxHeartbeats 4000000 in
theorem T_X12_relation (xs : Nat → Int32) (L : Nat) (N : Nat) (x1 : Int32) (σ : aSt) (q : Unit × aSt) (h : F_X12_relation N x1 σ = some q) (hG : Gr σ) : Cal xs L 136 [.ref 235, .int x1] σ (wV q.1) q.2 ∧ Gr q.2 := by
  have h : (oB (F_X12_expression N σ) fun y46 σ47 => if (aI σ47 235 13) ≤ 0 then cO (¬ ((aI σ47 235 11) < 0 ∨ 403 ≤ (aI σ47 235 11).toNatClampNeg)) (J_X12_relation_32 N x1 (aI σ 235 32) ((aI σ47 238 (aI σ47 235 11).toNatClampNeg) - 11) σ47) else J_X12_relation_32 N x1 (aI σ 235 32) 0 σ47) = some q := h
  show Ev xs L 136 0 [.ref 235, .int x1, aU, aU, aU, aU] [] σ (wV q.1) q.2 ∧ Gr q.2
  refine ev_a (fun he => ev_aload rfl rfl he) ?_
  refine ev_a (fun he => ev_getI rfl (gr_ob (n := 80) hG rfl) he) ?_
  refine ev_a (fun he => ev_istore (ls' := [.ref 235, .int x1, .int (aI σ 235 32), aU, aU, aU]) rfl (Nat.le_of_ble_eq_true rfl) rfl he) ?_
  refine ev_a (fun he => ev_aload rfl rfl he) ?_
  obtain ⟨y46, σ47, h48, h⟩ := oB_inv h
  obtain ⟨c49, hG50⟩ := T_X12_expression xs L N σ (y46, σ47) h48 hG
  refine ev_a (fun he => ev_callV (as := []) rfl (gr_ob (n := 80) hG rfl) rfl rfl rfl (Nat.le_of_ble_eq_true rfl) (Nat.le_of_ble_eq_true rfl) c49 he) ?_
  refine ev_a (fun he => ev_aload rfl rfl he) ?_
  refine ev_a (fun he => ev_getI rfl (gr_ob (n := 80) hG50 rfl) he) ?_
  refine ev_b (c := (aI σ47 235 13) ≤ 0) (fun ht hf => ev_ifle rfl ht hf) (fun hc51 => ?_) (fun hc51 => ?_)
  · rw [if_pos hc51] at h
    refine ev_a (fun he => ev_aload rfl rfl he) ?_
    refine ev_a (fun he => ev_getR rfl (gr_ob (n := 80) hG50 rfl) (gr_p (a := 235) (k := 5) (b := 238) hG50 rfl) he) ?_
    refine ev_a (fun he => ev_aload rfl rfl he) ?_
    refine ev_a (fun he => ev_getI rfl (gr_ob (n := 80) hG50 rfl) he) ?_
    obtain ⟨hc52, h⟩ := cO_inv h
    refine ev_a (fun he => ev_aldI (k := (aI σ47 235 11).toNatClampNeg) rfl (gr_ar hG50 rfl) hc52 rfl he) ?_
    refine ev_a (fun he => ev_push rfl he) ?_
    refine ev_a (fun he => ev_bin (z := (aI σ47 238 (aI σ47 235 11).toNatClampNeg) - 11) rfl rfl he) ?_
    exact TJ_X12_relation_32 xs L N x1 (aI σ 235 32) ((aI σ47 238 (aI σ47 235 11).toNatClampNeg) - 11) (aU) (aU) (aU) σ47 q h hG50
  · rw [if_neg hc51] at h
    refine ev_a (fun he => ev_push rfl he) ?_
    refine ev_a (fun he => ev_goto rfl he) ?_
    exact TJ_X12_relation_32 xs L N x1 (aI σ 235 32) 0 (aU) (aU) (aU) σ47 q h hG50
def J_X12_tellRule_211 (N : Nat) (x1 : Int32) (σ : aSt) : Option (Unit × aSt) := oB (F_X12_must N 4 σ) fun y1 σ2 => if (aI σ2 235 13) ≤ 0 then cO (¬ ((aI σ2 235 19) < 0 ∨ 14 ≤ (aI σ2 235 19).toNatClampNeg)) (cO (¬ (x1 < 0 ∨ 280 ≤ x1.toNatClampNeg)) (lt (aWI σ2 249 x1.toNatClampNeg (aI σ2 250 (aI σ2 235 19).toNatClampNeg)) fun σ9 => cO (¬ ((aI σ9 235 19) < 0 ∨ 14 ≤ (aI σ9 235 19).toNatClampNeg)) (cO (¬ ((aI σ9 235 19) < 0 ∨ 14 ≤ (aI σ9 235 19).toNatClampNeg)) (lt (aWI σ9 244 (aI σ9 235 19).toNatClampNeg ((aI σ9 244 (aI σ9 235 19).toNatClampNeg) + 1)) fun σ14 => some ((), σ14))))) else some ((), σ2)
set_option maxRecDepth 20000 in
set_option maxHeartbeats 4000000 in
theorem TJ_X12_tellRule_211 (xs : Nat → Int32) (L : Nat) (N : Nat) (x1 : Int32) (d2 : Value) (d3 : Value) (σ : aSt) (q : Unit × aSt) (h : J_X12_tellRule_211 N x1 σ = some q) (hG : Gr σ) : Ev xs L 135 211 [.ref 235, .int x1, d2, d3] [] σ (wV q.1) q.2 ∧ Gr q.2 := by
  have h : (oB (F_X12_must N 4 σ) fun y1 σ2 => if (aI σ2 235 13) ≤ 0 then cO (¬ ((aI σ2 235 19) < 0 ∨ 14 ≤ (aI σ2 235 19).toNatClampNeg)) (cO (¬ (x1 < 0 ∨ 280 ≤ x1.toNatClampNeg)) (lt (aWI σ2 249 x1.toNatClampNeg (aI σ2 250 (aI σ2 235 19).toNatClampNeg)) fun σ9 => cO (¬ ((aI σ9 235 19) < 0 ∨ 14 ≤ (aI σ9 235 19).toNatClampNeg)) (cO (¬ ((aI σ9 235 19) < 0 ∨ 14 ≤ (aI σ9 235 19).toNatClampNeg)) (lt (aWI σ9 244 (aI σ9 235 19).toNatClampNeg ((aI σ9 244 (aI σ9 235 19).toNatClampNeg) + 1)) fun σ14 => some ((), σ14))))) else some ((), σ2)) = some q := h
  refine ev_a (fun he => ev_aload rfl rfl he) ?_
  refine ev_a (fun he => ev_push rfl he) ?_
  obtain ⟨y1, σ2, h3, h⟩ := oB_inv h
  obtain ⟨c4, hG5⟩ := T_X12_must xs L N 4 σ (y1, σ2) h3 hG
  refine ev_a (fun he => ev_callV (as := [.int 4]) rfl (gr_ob (n := 80) hG rfl) rfl rfl rfl (Nat.le_of_ble_eq_true rfl) (Nat.le_of_ble_eq_true rfl) c4 he) ?_
  refine ev_a (fun he => ev_aload rfl rfl he) ?_
  refine ev_a (fun he => ev_getI rfl (gr_ob (n := 80) hG5 rfl) he) ?_
  refine ev_b (c := (aI σ2 235 13) ≤ 0) (fun ht hf => ev_ifle rfl ht hf) (fun hc6 => ?_) (fun hc6 => ?_)
  · rw [if_pos hc6] at h
    refine ev_a (fun he => ev_aload rfl rfl he) ?_
    refine ev_a (fun he => ev_getR rfl (gr_ob (n := 80) hG5 rfl) (gr_p (a := 235) (k := 25) (b := 249) hG5 rfl) he) ?_
    refine ev_a (fun he => ev_iload rfl rfl he) ?_
    refine ev_a (fun he => ev_aload rfl rfl he) ?_
    refine ev_a (fun he => ev_getR rfl (gr_ob (n := 80) hG5 rfl) (gr_p (a := 235) (k := 26) (b := 250) hG5 rfl) he) ?_
    refine ev_a (fun he => ev_aload rfl rfl he) ?_
    refine ev_a (fun he => ev_getI rfl (gr_ob (n := 80) hG5 rfl) he) ?_
    obtain ⟨hc7, h⟩ := cO_inv h
    refine ev_a (fun he => ev_aldI (k := (aI σ2 235 19).toNatClampNeg) rfl (gr_ar hG5 rfl) hc7 rfl he) ?_
    obtain ⟨hc8, h⟩ := cO_inv h
    obtain ⟨σ9, e10, h⟩ := lt_inv h
    have hG11 : Gr σ9 := gr_wi e10 hG5
    refine ev_a (fun he => ev_astI (k := x1.toNatClampNeg) rfl (gr_ar hG5 rfl) hc8 rfl rfl e10 he) ?_
    refine ev_a (fun he => ev_aload rfl rfl he) ?_
    refine ev_a (fun he => ev_getR rfl (gr_ob (n := 80) hG11 rfl) (gr_p (a := 235) (k := 20) (b := 244) hG11 rfl) he) ?_
    refine ev_a (fun he => ev_aload rfl rfl he) ?_
    refine ev_a (fun he => ev_getI rfl (gr_ob (n := 80) hG11 rfl) he) ?_
    refine ev_a (fun he => ev_dup2 rfl he) ?_
    obtain ⟨hc12, h⟩ := cO_inv h
    refine ev_a (fun he => ev_aldI (k := (aI σ9 235 19).toNatClampNeg) rfl (gr_ar hG11 rfl) hc12 rfl he) ?_
    refine ev_a (fun he => ev_push rfl he) ?_
    refine ev_a (fun he => ev_bin (z := (aI σ9 244 (aI σ9 235 19).toNatClampNeg) + 1) rfl rfl he) ?_
    obtain ⟨hc13, h⟩ := cO_inv h
    obtain ⟨σ14, e15, h⟩ := lt_inv h
    have hG16 : Gr σ14 := gr_wi e15 hG11
    refine ev_a (fun he => ev_astI (k := (aI σ9 235 19).toNatClampNeg) rfl (gr_ar hG11 rfl) hc13 rfl rfl e15 he) ?_
    cases h
    exact ⟨ev_retV rfl, hG16⟩
  · rw [if_neg hc6] at h
    cases h
    exact ⟨ev_retV rfl, hG5⟩
def J_X12_tellRule_199 (N : Nat) (k158 : Int32 → Int32 → Int32 → aSt → Option (Unit × aSt)) (x1 : Int32) (x3 : Int32) (s0 : Int32) (σ : aSt) : Option (Unit × aSt) := if s0 = 0 then k158 x1 s0 x3 σ else oB (F_X12_next N σ) fun y18 σ19 => k158 x1 s0 x3 σ19
set_option maxRecDepth 20000 in
set_option maxHeartbeats 4000000 in
theorem TJ_X12_tellRule_199 (xs : Nat → Int32) (L : Nat) (N : Nat) (k158 : Int32 → Int32 → Int32 → aSt → Option (Unit × aSt)) (hk158 : ∀ (x1 : Int32) (x2 : Int32) (x3 : Int32) (σ : aSt) (q : Unit × aSt), k158 x1 x2 x3 σ = some q → Gr σ → Ev xs L 135 158 [.ref 235, .int x1, .int x2, .int x3] [] σ (wV q.1) q.2 ∧ Gr q.2) (x1 : Int32) (x3 : Int32) (s0 : Int32) (d2 : Value) (σ : aSt) (q : Unit × aSt) (h : J_X12_tellRule_199 N k158 x1 x3 s0 σ = some q) (hG : Gr σ) : Ev xs L 135 199 [.ref 235, .int x1, d2, .int x3] [.int s0] σ (wV q.1) q.2 ∧ Gr q.2 := by
  have h : (if s0 = 0 then k158 x1 s0 x3 σ else oB (F_X12_next N σ) fun y18 σ19 => k158 x1 s0 x3 σ19) = some q := h
  refine ev_a (fun he => ev_istore (ls' := [.ref 235, .int x1, .int s0, .int x3]) rfl (Nat.le_of_ble_eq_true rfl) rfl he) ?_
  refine ev_a (fun he => ev_iload rfl rfl he) ?_
  refine ev_b (c := s0 = 0) (fun ht hf => ev_ifeq rfl ht hf) (fun hc17 => ?_) (fun hc17 => ?_)
  · rw [if_pos hc17] at h
    exact hk158 x1 s0 x3 σ q h hG
  · rw [if_neg hc17] at h
    refine ev_a (fun he => ev_aload rfl rfl he) ?_
    obtain ⟨y18, σ19, h20, h⟩ := oB_inv h
    obtain ⟨c21, hG22⟩ := T_X12_next xs L N σ (y18, σ19) h20 hG
    refine ev_a (fun he => ev_callV (as := []) rfl (gr_ob (n := 80) hG rfl) rfl rfl rfl (Nat.le_of_ble_eq_true rfl) (Nat.le_of_ble_eq_true rfl) c21 he) ?_
    refine ev_a (fun he => ev_goto rfl he) ?_
    exact hk158 x1 s0 x3 σ19 q h hG22
def J_X12_tellRule_194 (N : Nat) (k158 : Int32 → Int32 → Int32 → aSt → Option (Unit × aSt)) (x1 : Int32) (x3 : Int32) (σ : aSt) : Option (Unit × aSt) := J_X12_tellRule_199 N k158 x1 x3 1 σ
set_option maxRecDepth 20000 in
set_option maxHeartbeats 4000000 in
theorem TJ_X12_tellRule_194 (xs : Nat → Int32) (L : Nat) (N : Nat) (k158 : Int32 → Int32 → Int32 → aSt → Option (Unit × aSt)) (hk158 : ∀ (x1 : Int32) (x2 : Int32) (x3 : Int32) (σ : aSt) (q : Unit × aSt), k158 x1 x2 x3 σ = some q → Gr σ → Ev xs L 135 158 [.ref 235, .int x1, .int x2, .int x3] [] σ (wV q.1) q.2 ∧ Gr q.2) (x1 : Int32) (x3 : Int32) (d2 : Value) (σ : aSt) (q : Unit × aSt) (h : J_X12_tellRule_194 N k158 x1 x3 σ = some q) (hG : Gr σ) : Ev xs L 135 194 [.ref 235, .int x1, d2, .int x3] [] σ (wV q.1) q.2 ∧ Gr q.2 := by
  have h : (J_X12_tellRule_199 N k158 x1 x3 1 σ) = some q := h
  refine ev_a (fun he => ev_push rfl he) ?_
  refine ev_a (fun he => ev_goto rfl he) ?_
  exact TJ_X12_tellRule_199 xs L N k158 hk158 x1 x3 1 (d2) σ q h hG
def H_X12_tellRule_158 (N : Nat) : Nat → Int32 → Int32 → Int32 → aSt → Option (Unit × aSt)
  | 0, _, _, _, _ => none
  | n + 1, x1, x2, x3, σ => if x2 = 0 then J_X12_tellRule_211 N x1 σ else if (aI σ 235 13) ≠ 0 then J_X12_tellRule_211 N x1 σ else oB (F_X12_relation N x3 σ) fun y25 σ26 => oB (F_X12_is N 24 σ26) fun y30 σ31 => if y30 ≠ 0 then J_X12_tellRule_194 N (H_X12_tellRule_158 N n) x1 y30 σ31 else oB (F_X12_is N 25 σ31) fun y36 σ37 => if y36 = 0 then J_X12_tellRule_199 N (H_X12_tellRule_158 N n) x1 y30 0 σ37 else J_X12_tellRule_194 N (H_X12_tellRule_158 N n) x1 y30 σ37
set_option maxRecDepth 20000 in
set_option maxHeartbeats 4000000 in
theorem TH_X12_tellRule_158 (xs : Nat → Int32) (L : Nat) (N : Nat) : ∀ (n : Nat) (x1 : Int32) (x2 : Int32) (x3 : Int32) (σ : aSt) (q : Unit × aSt), H_X12_tellRule_158 N n x1 x2 x3 σ = some q → Gr σ → Ev xs L 135 158 [.ref 235, .int x1, .int x2, .int x3] [] σ (wV q.1) q.2 ∧ Gr q.2 := by
  intro n
  induction n with
  | zero =>
    intro x1 x2 x3 σ q h hG
    exact absurd (show (none : Option (Unit × aSt)) = some q from h) (by simp)
  | succ n ih =>
    intro x1 x2 x3 σ q h hG
    have hk158 : ∀ (x1 : Int32) (x2 : Int32) (x3 : Int32) (σ : aSt) (q : Unit × aSt), H_X12_tellRule_158 N n x1 x2 x3 σ = some q → Gr σ → Ev xs L 135 158 [.ref 235, .int x1, .int x2, .int x3] [] σ (wV q.1) q.2 ∧ Gr q.2 := ih
    have h : (if x2 = 0 then J_X12_tellRule_211 N x1 σ else if (aI σ 235 13) ≠ 0 then J_X12_tellRule_211 N x1 σ else oB (F_X12_relation N x3 σ) fun y25 σ26 => oB (F_X12_is N 24 σ26) fun y30 σ31 => if y30 ≠ 0 then J_X12_tellRule_194 N (H_X12_tellRule_158 N n) x1 y30 σ31 else oB (F_X12_is N 25 σ31) fun y36 σ37 => if y36 = 0 then J_X12_tellRule_199 N (H_X12_tellRule_158 N n) x1 y30 0 σ37 else J_X12_tellRule_194 N (H_X12_tellRule_158 N n) x1 y30 σ37) = some q := h
    refine ev_a (fun he => ev_iload rfl rfl he) ?_
    refine ev_b (c := x2 = 0) (fun ht hf => ev_ifeq rfl ht hf) (fun hc23 => ?_) (fun hc23 => ?_)
    · rw [if_pos hc23] at h
      exact TJ_X12_tellRule_211 xs L N x1 (.int x2) (.int x3) σ q h hG
    · rw [if_neg hc23] at h
      refine ev_a (fun he => ev_aload rfl rfl he) ?_
      refine ev_a (fun he => ev_getI rfl (gr_ob (n := 80) hG rfl) he) ?_
      refine ev_b (c := (aI σ 235 13) ≠ 0) (fun ht hf => ev_ifne rfl ht hf) (fun hc24 => ?_) (fun hc24 => ?_)
      · rw [if_pos hc24] at h
        exact TJ_X12_tellRule_211 xs L N x1 (.int x2) (.int x3) σ q h hG
      · rw [if_neg hc24] at h
        refine ev_a (fun he => ev_aload rfl rfl he) ?_
        refine ev_a (fun he => ev_iload rfl rfl he) ?_
        obtain ⟨y25, σ26, h27, h⟩ := oB_inv h
        obtain ⟨c28, hG29⟩ := T_X12_relation xs L N x3 σ (y25, σ26) h27 hG
        refine ev_a (fun he => ev_callV (as := [.int x3]) rfl (gr_ob (n := 80) hG rfl) rfl rfl rfl (Nat.le_of_ble_eq_true rfl) (Nat.le_of_ble_eq_true rfl) c28 he) ?_
        refine ev_a (fun he => ev_aload rfl rfl he) ?_
        refine ev_a (fun he => ev_push rfl he) ?_
        obtain ⟨y30, σ31, h32, h⟩ := oB_inv h
        obtain ⟨c33, hG34⟩ := T_X12_is xs L N 24 σ26 (y30, σ31) h32 hG29
        refine ev_a (fun he => ev_callV (as := [.int 24]) rfl (gr_ob (n := 80) hG29 rfl) rfl rfl rfl (Nat.le_of_ble_eq_true rfl) (Nat.le_of_ble_eq_true rfl) c33 he) ?_
        refine ev_a (fun he => ev_istore (ls' := [.ref 235, .int x1, .int x2, .int y30]) rfl (Nat.le_of_ble_eq_true rfl) rfl he) ?_
        refine ev_a (fun he => ev_iload rfl rfl he) ?_
        refine ev_b (c := y30 ≠ 0) (fun ht hf => ev_ifne rfl ht hf) (fun hc35 => ?_) (fun hc35 => ?_)
        · rw [if_pos hc35] at h
          exact TJ_X12_tellRule_194 xs L N (H_X12_tellRule_158 N n) hk158 x1 y30 (.int x2) σ31 q h hG34
        · rw [if_neg hc35] at h
          refine ev_a (fun he => ev_aload rfl rfl he) ?_
          refine ev_a (fun he => ev_push rfl he) ?_
          obtain ⟨y36, σ37, h38, h⟩ := oB_inv h
          obtain ⟨c39, hG40⟩ := T_X12_is xs L N 25 σ31 (y36, σ37) h38 hG34
          refine ev_a (fun he => ev_callV (as := [.int 25]) rfl (gr_ob (n := 80) hG34 rfl) rfl rfl rfl (Nat.le_of_ble_eq_true rfl) (Nat.le_of_ble_eq_true rfl) c39 he) ?_
          refine ev_b (c := y36 = 0) (fun ht hf => ev_ifeq rfl ht hf) (fun hc41 => ?_) (fun hc41 => ?_)
          · rw [if_pos hc41] at h
            refine ev_a (fun he => ev_push rfl he) ?_
            exact TJ_X12_tellRule_199 xs L N (H_X12_tellRule_158 N n) hk158 x1 y30 0 (.int x2) σ37 q h hG40
          · rw [if_neg hc41] at h
            exact TJ_X12_tellRule_194 xs L N (H_X12_tellRule_158 N n) hk158 x1 y30 (.int x2) σ37 q h hG40
def J_X12_tellRule_156 (N : Nat) (x1 : Int32) (x2 : Int32) (σ : aSt) : Option (Unit × aSt) := H_X12_tellRule_158 N N x1 x2 1 σ
set_option maxRecDepth 20000 in
set_option maxHeartbeats 4000000 in
theorem TJ_X12_tellRule_156 (xs : Nat → Int32) (L : Nat) (N : Nat) (x1 : Int32) (x2 : Int32) (d3 : Value) (σ : aSt) (q : Unit × aSt) (h : J_X12_tellRule_156 N x1 x2 σ = some q) (hG : Gr σ) : Ev xs L 135 156 [.ref 235, .int x1, .int x2, d3] [] σ (wV q.1) q.2 ∧ Gr q.2 := by
  have h : (H_X12_tellRule_158 N N x1 x2 1 σ) = some q := h
  refine ev_a (fun he => ev_push rfl he) ?_
  refine ev_a (fun he => ev_istore (ls' := [.ref 235, .int x1, .int x2, .int 1]) rfl (Nat.le_of_ble_eq_true rfl) rfl he) ?_
  exact TH_X12_tellRule_158 xs L N N x1 x2 1 σ q h hG
def J_X12_tellRule_54 (N : Nat) (σ : aSt) : Option (Unit × aSt) := if (aI σ 235 13) ≤ 0 then cO (¬ ((aI σ 235 19) < 0 ∨ 14 ≤ (aI σ 235 19).toNatClampNeg)) (cO (¬ ((aI σ 235 11) < 0 ∨ 403 ≤ (aI σ 235 11).toNatClampNeg)) (cO (¬ (((20 * (aI σ 235 19)) + (aI σ 244 (aI σ 235 19).toNatClampNeg)) < 0 ∨ 280 ≤ ((20 * (aI σ 235 19)) + (aI σ 244 (aI σ 235 19).toNatClampNeg)).toNatClampNeg)) (lt (aWI σ 245 ((20 * (aI σ 235 19)) + (aI σ 244 (aI σ 235 19).toNatClampNeg)).toNatClampNeg ((aI σ 238 (aI σ 235 11).toNatClampNeg) - 20)) fun σ46 => oB (F_X12_next N σ46) fun y49 σ50 => cO (¬ (((20 * (aI σ 235 19)) + (aI σ 244 (aI σ 235 19).toNatClampNeg)) < 0 ∨ 280 ≤ ((20 * (aI σ 235 19)) + (aI σ 244 (aI σ 235 19).toNatClampNeg)).toNatClampNeg)) (lt (aWI σ50 246 ((20 * (aI σ 235 19)) + (aI σ 244 (aI σ 235 19).toNatClampNeg)).toNatClampNeg (aI σ50 235 32)) fun σ55 => oB (F_X12_expression N σ55) fun y58 σ59 => cO (¬ (((20 * (aI σ 235 19)) + (aI σ 244 (aI σ 235 19).toNatClampNeg)) < 0 ∨ 280 ≤ ((20 * (aI σ 235 19)) + (aI σ 244 (aI σ 235 19).toNatClampNeg)).toNatClampNeg)) (lt (aWI σ59 247 ((20 * (aI σ 235 19)) + (aI σ 244 (aI σ 235 19).toNatClampNeg)).toNatClampNeg (aI σ59 235 32)) fun σ64 => cO (¬ ((aI σ64 235 19) < 0 ∨ 14 ≤ (aI σ64 235 19).toNatClampNeg)) (cO (¬ (((20 * (aI σ 235 19)) + (aI σ 244 (aI σ 235 19).toNatClampNeg)) < 0 ∨ 280 ≤ ((20 * (aI σ 235 19)) + (aI σ 244 (aI σ 235 19).toNatClampNeg)).toNatClampNeg)) (lt (aWI σ64 248 ((20 * (aI σ 235 19)) + (aI σ 244 (aI σ 235 19).toNatClampNeg)).toNatClampNeg (aI σ64 250 (aI σ64 235 19).toNatClampNeg)) fun σ69 => oB (F_X12_is N 23 σ69) fun y72 σ73 => if y72 = 0 then J_X12_tellRule_156 N ((20 * (aI σ 235 19)) + (aI σ 244 (aI σ 235 19).toNatClampNeg)) y72 σ73 else oB (F_X12_next N σ73) fun y78 σ79 => J_X12_tellRule_156 N ((20 * (aI σ 235 19)) + (aI σ 244 (aI σ 235 19).toNatClampNeg)) y72 σ79))))))) else some ((), σ)
set_option maxRecDepth 20000 in
set_option maxHeartbeats 4000000 in
theorem TJ_X12_tellRule_54 (xs : Nat → Int32) (L : Nat) (N : Nat) (d1 : Value) (d2 : Value) (d3 : Value) (σ : aSt) (q : Unit × aSt) (h : J_X12_tellRule_54 N  σ = some q) (hG : Gr σ) : Ev xs L 135 54 [.ref 235, d1, d2, d3] [] σ (wV q.1) q.2 ∧ Gr q.2 := by
  have h : (if (aI σ 235 13) ≤ 0 then cO (¬ ((aI σ 235 19) < 0 ∨ 14 ≤ (aI σ 235 19).toNatClampNeg)) (cO (¬ ((aI σ 235 11) < 0 ∨ 403 ≤ (aI σ 235 11).toNatClampNeg)) (cO (¬ (((20 * (aI σ 235 19)) + (aI σ 244 (aI σ 235 19).toNatClampNeg)) < 0 ∨ 280 ≤ ((20 * (aI σ 235 19)) + (aI σ 244 (aI σ 235 19).toNatClampNeg)).toNatClampNeg)) (lt (aWI σ 245 ((20 * (aI σ 235 19)) + (aI σ 244 (aI σ 235 19).toNatClampNeg)).toNatClampNeg ((aI σ 238 (aI σ 235 11).toNatClampNeg) - 20)) fun σ46 => oB (F_X12_next N σ46) fun y49 σ50 => cO (¬ (((20 * (aI σ 235 19)) + (aI σ 244 (aI σ 235 19).toNatClampNeg)) < 0 ∨ 280 ≤ ((20 * (aI σ 235 19)) + (aI σ 244 (aI σ 235 19).toNatClampNeg)).toNatClampNeg)) (lt (aWI σ50 246 ((20 * (aI σ 235 19)) + (aI σ 244 (aI σ 235 19).toNatClampNeg)).toNatClampNeg (aI σ50 235 32)) fun σ55 => oB (F_X12_expression N σ55) fun y58 σ59 => cO (¬ (((20 * (aI σ 235 19)) + (aI σ 244 (aI σ 235 19).toNatClampNeg)) < 0 ∨ 280 ≤ ((20 * (aI σ 235 19)) + (aI σ 244 (aI σ 235 19).toNatClampNeg)).toNatClampNeg)) (lt (aWI σ59 247 ((20 * (aI σ 235 19)) + (aI σ 244 (aI σ 235 19).toNatClampNeg)).toNatClampNeg (aI σ59 235 32)) fun σ64 => cO (¬ ((aI σ64 235 19) < 0 ∨ 14 ≤ (aI σ64 235 19).toNatClampNeg)) (cO (¬ (((20 * (aI σ 235 19)) + (aI σ 244 (aI σ 235 19).toNatClampNeg)) < 0 ∨ 280 ≤ ((20 * (aI σ 235 19)) + (aI σ 244 (aI σ 235 19).toNatClampNeg)).toNatClampNeg)) (lt (aWI σ64 248 ((20 * (aI σ 235 19)) + (aI σ 244 (aI σ 235 19).toNatClampNeg)).toNatClampNeg (aI σ64 250 (aI σ64 235 19).toNatClampNeg)) fun σ69 => oB (F_X12_is N 23 σ69) fun y72 σ73 => if y72 = 0 then J_X12_tellRule_156 N ((20 * (aI σ 235 19)) + (aI σ 244 (aI σ 235 19).toNatClampNeg)) y72 σ73 else oB (F_X12_next N σ73) fun y78 σ79 => J_X12_tellRule_156 N ((20 * (aI σ 235 19)) + (aI σ 244 (aI σ 235 19).toNatClampNeg)) y72 σ79))))))) else some ((), σ)) = some q := h
  refine ev_a (fun he => ev_aload rfl rfl he) ?_
  refine ev_a (fun he => ev_getI rfl (gr_ob (n := 80) hG rfl) he) ?_
  refine ev_b (c := (aI σ 235 13) ≤ 0) (fun ht hf => ev_ifle rfl ht hf) (fun hc42 => ?_) (fun hc42 => ?_)
  · rw [if_pos hc42] at h
    refine ev_a (fun he => ev_push rfl he) ?_
    refine ev_a (fun he => ev_aload rfl rfl he) ?_
    refine ev_a (fun he => ev_getI rfl (gr_ob (n := 80) hG rfl) he) ?_
    refine ev_a (fun he => ev_bin (z := 20 * (aI σ 235 19)) rfl rfl he) ?_
    refine ev_a (fun he => ev_aload rfl rfl he) ?_
    refine ev_a (fun he => ev_getR rfl (gr_ob (n := 80) hG rfl) (gr_p (a := 235) (k := 20) (b := 244) hG rfl) he) ?_
    refine ev_a (fun he => ev_aload rfl rfl he) ?_
    refine ev_a (fun he => ev_getI rfl (gr_ob (n := 80) hG rfl) he) ?_
    obtain ⟨hc43, h⟩ := cO_inv h
    refine ev_a (fun he => ev_aldI (k := (aI σ 235 19).toNatClampNeg) rfl (gr_ar hG rfl) hc43 rfl he) ?_
    refine ev_a (fun he => ev_bin (z := (20 * (aI σ 235 19)) + (aI σ 244 (aI σ 235 19).toNatClampNeg)) rfl rfl he) ?_
    refine ev_a (fun he => ev_istore (ls' := [.ref 235, .int ((20 * (aI σ 235 19)) + (aI σ 244 (aI σ 235 19).toNatClampNeg)), d2, d3]) rfl (Nat.le_of_ble_eq_true rfl) rfl he) ?_
    refine ev_a (fun he => ev_aload rfl rfl he) ?_
    refine ev_a (fun he => ev_getR rfl (gr_ob (n := 80) hG rfl) (gr_p (a := 235) (k := 21) (b := 245) hG rfl) he) ?_
    refine ev_a (fun he => ev_iload rfl rfl he) ?_
    refine ev_a (fun he => ev_aload rfl rfl he) ?_
    refine ev_a (fun he => ev_getR rfl (gr_ob (n := 80) hG rfl) (gr_p (a := 235) (k := 5) (b := 238) hG rfl) he) ?_
    refine ev_a (fun he => ev_aload rfl rfl he) ?_
    refine ev_a (fun he => ev_getI rfl (gr_ob (n := 80) hG rfl) he) ?_
    obtain ⟨hc44, h⟩ := cO_inv h
    refine ev_a (fun he => ev_aldI (k := (aI σ 235 11).toNatClampNeg) rfl (gr_ar hG rfl) hc44 rfl he) ?_
    refine ev_a (fun he => ev_push rfl he) ?_
    refine ev_a (fun he => ev_bin (z := (aI σ 238 (aI σ 235 11).toNatClampNeg) - 20) rfl rfl he) ?_
    obtain ⟨hc45, h⟩ := cO_inv h
    obtain ⟨σ46, e47, h⟩ := lt_inv h
    have hG48 : Gr σ46 := gr_wi e47 hG
    refine ev_a (fun he => ev_astI (k := ((20 * (aI σ 235 19)) + (aI σ 244 (aI σ 235 19).toNatClampNeg)).toNatClampNeg) rfl (gr_ar hG rfl) hc45 rfl rfl e47 he) ?_
    refine ev_a (fun he => ev_aload rfl rfl he) ?_
    obtain ⟨y49, σ50, h51, h⟩ := oB_inv h
    obtain ⟨c52, hG53⟩ := T_X12_next xs L N σ46 (y49, σ50) h51 hG48
    refine ev_a (fun he => ev_callV (as := []) rfl (gr_ob (n := 80) hG48 rfl) rfl rfl rfl (Nat.le_of_ble_eq_true rfl) (Nat.le_of_ble_eq_true rfl) c52 he) ?_
    refine ev_a (fun he => ev_aload rfl rfl he) ?_
    refine ev_a (fun he => ev_getR rfl (gr_ob (n := 80) hG53 rfl) (gr_p (a := 235) (k := 22) (b := 246) hG53 rfl) he) ?_
    refine ev_a (fun he => ev_iload rfl rfl he) ?_
    refine ev_a (fun he => ev_aload rfl rfl he) ?_
    refine ev_a (fun he => ev_getI rfl (gr_ob (n := 80) hG53 rfl) he) ?_
    obtain ⟨hc54, h⟩ := cO_inv h
    obtain ⟨σ55, e56, h⟩ := lt_inv h
    have hG57 : Gr σ55 := gr_wi e56 hG53
    refine ev_a (fun he => ev_astI (k := ((20 * (aI σ 235 19)) + (aI σ 244 (aI σ 235 19).toNatClampNeg)).toNatClampNeg) rfl (gr_ar hG53 rfl) hc54 rfl rfl e56 he) ?_
    refine ev_a (fun he => ev_aload rfl rfl he) ?_
    obtain ⟨y58, σ59, h60, h⟩ := oB_inv h
    obtain ⟨c61, hG62⟩ := T_X12_expression xs L N σ55 (y58, σ59) h60 hG57
    refine ev_a (fun he => ev_callV (as := []) rfl (gr_ob (n := 80) hG57 rfl) rfl rfl rfl (Nat.le_of_ble_eq_true rfl) (Nat.le_of_ble_eq_true rfl) c61 he) ?_
    refine ev_a (fun he => ev_aload rfl rfl he) ?_
    refine ev_a (fun he => ev_getR rfl (gr_ob (n := 80) hG62 rfl) (gr_p (a := 235) (k := 23) (b := 247) hG62 rfl) he) ?_
    refine ev_a (fun he => ev_iload rfl rfl he) ?_
    refine ev_a (fun he => ev_aload rfl rfl he) ?_
    refine ev_a (fun he => ev_getI rfl (gr_ob (n := 80) hG62 rfl) he) ?_
    obtain ⟨hc63, h⟩ := cO_inv h
    obtain ⟨σ64, e65, h⟩ := lt_inv h
    have hG66 : Gr σ64 := gr_wi e65 hG62
    refine ev_a (fun he => ev_astI (k := ((20 * (aI σ 235 19)) + (aI σ 244 (aI σ 235 19).toNatClampNeg)).toNatClampNeg) rfl (gr_ar hG62 rfl) hc63 rfl rfl e65 he) ?_
    refine ev_a (fun he => ev_aload rfl rfl he) ?_
    refine ev_a (fun he => ev_getR rfl (gr_ob (n := 80) hG66 rfl) (gr_p (a := 235) (k := 24) (b := 248) hG66 rfl) he) ?_
    refine ev_a (fun he => ev_iload rfl rfl he) ?_
    refine ev_a (fun he => ev_aload rfl rfl he) ?_
    refine ev_a (fun he => ev_getR rfl (gr_ob (n := 80) hG66 rfl) (gr_p (a := 235) (k := 26) (b := 250) hG66 rfl) he) ?_
    refine ev_a (fun he => ev_aload rfl rfl he) ?_
    refine ev_a (fun he => ev_getI rfl (gr_ob (n := 80) hG66 rfl) he) ?_
    obtain ⟨hc67, h⟩ := cO_inv h
    refine ev_a (fun he => ev_aldI (k := (aI σ64 235 19).toNatClampNeg) rfl (gr_ar hG66 rfl) hc67 rfl he) ?_
    obtain ⟨hc68, h⟩ := cO_inv h
    obtain ⟨σ69, e70, h⟩ := lt_inv h
    have hG71 : Gr σ69 := gr_wi e70 hG66
    refine ev_a (fun he => ev_astI (k := ((20 * (aI σ 235 19)) + (aI σ 244 (aI σ 235 19).toNatClampNeg)).toNatClampNeg) rfl (gr_ar hG66 rfl) hc68 rfl rfl e70 he) ?_
    refine ev_a (fun he => ev_aload rfl rfl he) ?_
    refine ev_a (fun he => ev_push rfl he) ?_
    obtain ⟨y72, σ73, h74, h⟩ := oB_inv h
    obtain ⟨c75, hG76⟩ := T_X12_is xs L N 23 σ69 (y72, σ73) h74 hG71
    refine ev_a (fun he => ev_callV (as := [.int 23]) rfl (gr_ob (n := 80) hG71 rfl) rfl rfl rfl (Nat.le_of_ble_eq_true rfl) (Nat.le_of_ble_eq_true rfl) c75 he) ?_
    refine ev_a (fun he => ev_istore (ls' := [.ref 235, .int ((20 * (aI σ 235 19)) + (aI σ 244 (aI σ 235 19).toNatClampNeg)), .int y72, d3]) rfl (Nat.le_of_ble_eq_true rfl) rfl he) ?_
    refine ev_a (fun he => ev_iload rfl rfl he) ?_
    refine ev_b (c := y72 = 0) (fun ht hf => ev_ifeq rfl ht hf) (fun hc77 => ?_) (fun hc77 => ?_)
    · rw [if_pos hc77] at h
      exact TJ_X12_tellRule_156 xs L N ((20 * (aI σ 235 19)) + (aI σ 244 (aI σ 235 19).toNatClampNeg)) y72 (d3) σ73 q h hG76
    · rw [if_neg hc77] at h
      refine ev_a (fun he => ev_aload rfl rfl he) ?_
      obtain ⟨y78, σ79, h80, h⟩ := oB_inv h
      obtain ⟨c81, hG82⟩ := T_X12_next xs L N σ73 (y78, σ79) h80 hG76
      refine ev_a (fun he => ev_callV (as := []) rfl (gr_ob (n := 80) hG76 rfl) rfl rfl rfl (Nat.le_of_ble_eq_true rfl) (Nat.le_of_ble_eq_true rfl) c81 he) ?_
      exact TJ_X12_tellRule_156 xs L N ((20 * (aI σ 235 19)) + (aI σ 244 (aI σ 235 19).toNatClampNeg)) y72 (d3) σ79 q h hG82
  · rw [if_neg hc42] at h
    cases h
    exact ⟨ev_retV rfl, hG⟩
def J_X12_tellRule_35 (N : Nat) (σ : aSt) : Option (Unit × aSt) := cO (¬ ((aI σ 235 19) < 0 ∨ 14 ≤ (aI σ 235 19).toNatClampNeg)) (if (aI σ 244 (aI σ 235 19).toNatClampNeg) ≠ 20 then J_X12_tellRule_54 N σ else oB (F_X12_fail N 2 σ) fun y85 σ86 => J_X12_tellRule_54 N σ86)
set_option maxRecDepth 20000 in
set_option maxHeartbeats 4000000 in
theorem TJ_X12_tellRule_35 (xs : Nat → Int32) (L : Nat) (N : Nat) (d1 : Value) (d2 : Value) (d3 : Value) (σ : aSt) (q : Unit × aSt) (h : J_X12_tellRule_35 N  σ = some q) (hG : Gr σ) : Ev xs L 135 35 [.ref 235, d1, d2, d3] [] σ (wV q.1) q.2 ∧ Gr q.2 := by
  have h : (cO (¬ ((aI σ 235 19) < 0 ∨ 14 ≤ (aI σ 235 19).toNatClampNeg)) (if (aI σ 244 (aI σ 235 19).toNatClampNeg) ≠ 20 then J_X12_tellRule_54 N σ else oB (F_X12_fail N 2 σ) fun y85 σ86 => J_X12_tellRule_54 N σ86)) = some q := h
  refine ev_a (fun he => ev_aload rfl rfl he) ?_
  refine ev_a (fun he => ev_getR rfl (gr_ob (n := 80) hG rfl) (gr_p (a := 235) (k := 20) (b := 244) hG rfl) he) ?_
  refine ev_a (fun he => ev_aload rfl rfl he) ?_
  refine ev_a (fun he => ev_getI rfl (gr_ob (n := 80) hG rfl) he) ?_
  obtain ⟨hc83, h⟩ := cO_inv h
  refine ev_a (fun he => ev_aldI (k := (aI σ 235 19).toNatClampNeg) rfl (gr_ar hG rfl) hc83 rfl he) ?_
  refine ev_a (fun he => ev_push rfl he) ?_
  refine ev_b (c := (aI σ 244 (aI σ 235 19).toNatClampNeg) ≠ 20) (fun ht hf => ev_cne rfl ht hf) (fun hc84 => ?_) (fun hc84 => ?_)
  · rw [if_pos hc84] at h
    exact TJ_X12_tellRule_54 xs L N (d1) (d2) (d3) σ q h hG
  · rw [if_neg hc84] at h
    refine ev_a (fun he => ev_aload rfl rfl he) ?_
    refine ev_a (fun he => ev_push rfl he) ?_
    obtain ⟨y85, σ86, h87, h⟩ := oB_inv h
    obtain ⟨c88, hG89⟩ := T_X12_fail xs L N 2 σ (y85, σ86) h87 hG
    refine ev_a (fun he => ev_callV (as := [.int 2]) rfl (gr_ob (n := 80) hG rfl) rfl rfl rfl (Nat.le_of_ble_eq_true rfl) (Nat.le_of_ble_eq_true rfl) c88 he) ?_
    exact TJ_X12_tellRule_54 xs L N (d1) (d2) (d3) σ86 q h hG89
def F_X12_tellRule (N : Nat) (σ : aSt) : Option (Unit × aSt) := oB (F_X12_is N 20 σ) fun y90 σ91 => if y90 ≠ 0 then J_X12_tellRule_35 N σ91 else oB (F_X12_is N 21 σ91) fun y96 σ97 => if y96 ≠ 0 then J_X12_tellRule_35 N σ97 else oB (F_X12_is N 22 σ97) fun y102 σ103 => if y102 ≠ 0 then J_X12_tellRule_35 N σ103 else oB (F_X12_fail N 1 σ103) fun y108 σ109 => J_X12_tellRule_54 N σ109
set_option maxRecDepth 20000 in
set_option maxHeartbeats 4000000 in
theorem T_X12_tellRule (xs : Nat → Int32) (L : Nat) (N : Nat) (σ : aSt) (q : Unit × aSt) (h : F_X12_tellRule N σ = some q) (hG : Gr σ) : Cal xs L 135 [.ref 235] σ (wV q.1) q.2 ∧ Gr q.2 := by
  have h : (oB (F_X12_is N 20 σ) fun y90 σ91 => if y90 ≠ 0 then J_X12_tellRule_35 N σ91 else oB (F_X12_is N 21 σ91) fun y96 σ97 => if y96 ≠ 0 then J_X12_tellRule_35 N σ97 else oB (F_X12_is N 22 σ97) fun y102 σ103 => if y102 ≠ 0 then J_X12_tellRule_35 N σ103 else oB (F_X12_fail N 1 σ103) fun y108 σ109 => J_X12_tellRule_54 N σ109) = some q := h
  show Ev xs L 135 0 [.ref 235, aU, aU, aU] [] σ (wV q.1) q.2 ∧ Gr q.2
  refine ev_a (fun he => ev_aload rfl rfl he) ?_
  refine ev_a (fun he => ev_push rfl he) ?_
  obtain ⟨y90, σ91, h92, h⟩ := oB_inv h
  obtain ⟨c93, hG94⟩ := T_X12_is xs L N 20 σ (y90, σ91) h92 hG
  refine ev_a (fun he => ev_callV (as := [.int 20]) rfl (gr_ob (n := 80) hG rfl) rfl rfl rfl (Nat.le_of_ble_eq_true rfl) (Nat.le_of_ble_eq_true rfl) c93 he) ?_
  refine ev_b (c := y90 ≠ 0) (fun ht hf => ev_ifne rfl ht hf) (fun hc95 => ?_) (fun hc95 => ?_)
  · rw [if_pos hc95] at h
    exact TJ_X12_tellRule_35 xs L N (aU) (aU) (aU) σ91 q h hG94
  · rw [if_neg hc95] at h
    refine ev_a (fun he => ev_aload rfl rfl he) ?_
    refine ev_a (fun he => ev_push rfl he) ?_
    obtain ⟨y96, σ97, h98, h⟩ := oB_inv h
    obtain ⟨c99, hG100⟩ := T_X12_is xs L N 21 σ91 (y96, σ97) h98 hG94
    refine ev_a (fun he => ev_callV (as := [.int 21]) rfl (gr_ob (n := 80) hG94 rfl) rfl rfl rfl (Nat.le_of_ble_eq_true rfl) (Nat.le_of_ble_eq_true rfl) c99 he) ?_
    refine ev_b (c := y96 ≠ 0) (fun ht hf => ev_ifne rfl ht hf) (fun hc101 => ?_) (fun hc101 => ?_)
    · rw [if_pos hc101] at h
      exact TJ_X12_tellRule_35 xs L N (aU) (aU) (aU) σ97 q h hG100
    · rw [if_neg hc101] at h
      refine ev_a (fun he => ev_aload rfl rfl he) ?_
      refine ev_a (fun he => ev_push rfl he) ?_
      obtain ⟨y102, σ103, h104, h⟩ := oB_inv h
      obtain ⟨c105, hG106⟩ := T_X12_is xs L N 22 σ97 (y102, σ103) h104 hG100
      refine ev_a (fun he => ev_callV (as := [.int 22]) rfl (gr_ob (n := 80) hG100 rfl) rfl rfl rfl (Nat.le_of_ble_eq_true rfl) (Nat.le_of_ble_eq_true rfl) c105 he) ?_
      refine ev_b (c := y102 ≠ 0) (fun ht hf => ev_ifne rfl ht hf) (fun hc107 => ?_) (fun hc107 => ?_)
      · rw [if_pos hc107] at h
        exact TJ_X12_tellRule_35 xs L N (aU) (aU) (aU) σ103 q h hG106
      · rw [if_neg hc107] at h
        refine ev_a (fun he => ev_aload rfl rfl he) ?_
        refine ev_a (fun he => ev_push rfl he) ?_
        obtain ⟨y108, σ109, h110, h⟩ := oB_inv h
        obtain ⟨c111, hG112⟩ := T_X12_fail xs L N 1 σ103 (y108, σ109) h110 hG106
        refine ev_a (fun he => ev_callV (as := [.int 1]) rfl (gr_ob (n := 80) hG106 rfl) rfl rfl rfl (Nat.le_of_ble_eq_true rfl) (Nat.le_of_ble_eq_true rfl) c111 he) ?_
        refine ev_a (fun he => ev_goto rfl he) ?_
        exact TJ_X12_tellRule_54 xs L N (aU) (aU) (aU) σ109 q h hG112
