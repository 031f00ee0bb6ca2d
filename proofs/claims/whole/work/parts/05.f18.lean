def J_X11_isWithin_15 (N : Nat) (s0 : Int32) (σ : aSt) : Option (Int32 × aSt) := cO (vp_nar .boolean s0 = s0) (some (s0, σ))
set_option maxRecDepth 20000 in
set_option maxHeartbeats 4000000 in
theorem TJ_X11_isWithin_15 (xs : Nat → Int32) (L : Nat) (N : Nat) (s0 : Int32) (d0 : Value) (d1 : Value) (d2 : Value) (σ : aSt) (q : Int32 × aSt) (h : J_X11_isWithin_15 N s0 σ = some q) (hG : Gr σ) : Ev xs L 116 15 [d0, d1, d2] [.int s0] σ (wI q.1) q.2 ∧ Gr q.2 := by
  have h : (cO (vp_nar .boolean s0 = s0) (some (s0, σ))) = some q := h
  obtain ⟨hc1, h⟩ := cO_inv h
  cases h
  exact ⟨ev_retZ rfl hc1, hG⟩
def J_X11_isWithin_14 (N : Nat) (σ : aSt) : Option (Int32 × aSt) := J_X11_isWithin_15 N 0 σ
set_option maxRecDepth 20000 in
set_option maxHeartbeats 4000000 in
theorem TJ_X11_isWithin_14 (xs : Nat → Int32) (L : Nat) (N : Nat) (d0 : Value) (d1 : Value) (d2 : Value) (σ : aSt) (q : Int32 × aSt) (h : J_X11_isWithin_14 N  σ = some q) (hG : Gr σ) : Ev xs L 116 14 [d0, d1, d2] [] σ (wI q.1) q.2 ∧ Gr q.2 := by
  have h : (J_X11_isWithin_15 N 0 σ) = some q := h
  refine ev_a (fun he => ev_push rfl he) ?_
  exact TJ_X11_isWithin_15 xs L N 0 (d0) (d1) (d2) σ q h hG
def F_X11_isWithin (N : Nat) (x0 : Int32) (x1 : Int32) (x2 : Int32) (σ : aSt) : Option (Int32 × aSt) := if x0 < x1 then J_X11_isWithin_14 N σ else if x2 < x0 then J_X11_isWithin_14 N σ else J_X11_isWithin_15 N 1 σ
set_option maxRecDepth 20000 in
set_option maxHeartbeats 4000000 in
theorem T_X11_isWithin (xs : Nat → Int32) (L : Nat) (N : Nat) (x0 : Int32) (x1 : Int32) (x2 : Int32) (σ : aSt) (q : Int32 × aSt) (h : F_X11_isWithin N x0 x1 x2 σ = some q) (hG : Gr σ) : Cal xs L 116 [.int x0, .int x1, .int x2] σ (wI q.1) q.2 ∧ Gr q.2 := by
  have h : (if x0 < x1 then J_X11_isWithin_14 N σ else if x2 < x0 then J_X11_isWithin_14 N σ else J_X11_isWithin_15 N 1 σ) = some q := h
  show Ev xs L 116 0 [.int x0, .int x1, .int x2] [] σ (wI q.1) q.2 ∧ Gr q.2
  refine ev_a (fun he => ev_iload rfl rfl he) ?_
  refine ev_a (fun he => ev_iload rfl rfl he) ?_
  refine ev_b (c := x0 < x1) (fun ht hf => ev_clt rfl ht hf) (fun hc2 => ?_) (fun hc2 => ?_)
  · rw [if_pos hc2] at h
    exact TJ_X11_isWithin_14 xs L N (.int x0) (.int x1) (.int x2) σ q h hG
  · rw [if_neg hc2] at h
    refine ev_a (fun he => ev_iload rfl rfl he) ?_
    refine ev_a (fun he => ev_iload rfl rfl he) ?_
    refine ev_b (c := x2 < x0) (fun ht hf => ev_cgt rfl ht hf) (fun hc3 => ?_) (fun hc3 => ?_)
    · rw [if_pos hc3] at h
      exact TJ_X11_isWithin_14 xs L N (.int x0) (.int x1) (.int x2) σ q h hG
    · rw [if_neg hc3] at h
      refine ev_a (fun he => ev_push rfl he) ?_
      refine ev_a (fun he => ev_goto rfl he) ?_
      exact TJ_X11_isWithin_15 xs L N 1 (.int x0) (.int x1) (.int x2) σ q h hG
def J_X11_lot_35 (N : Nat) (σ : aSt) : Option (Int32 × aSt) := some ((-1), σ)
set_option maxRecDepth 20000 in
set_option maxHeartbeats 4000000 in
theorem TJ_X11_lot_35 (xs : Nat → Int32) (L : Nat) (N : Nat) (d0 : Value) (d1 : Value) (d2 : Value) (d3 : Value) (d4 : Value) (d5 : Value) (σ : aSt) (q : Int32 × aSt) (h : J_X11_lot_35 N  σ = some q) (hG : Gr σ) : Ev xs L 98 35 [d0, d1, d2, d3, d4, d5] [] σ (wI q.1) q.2 ∧ Gr q.2 := by
  have h : (some ((-1), σ)) = some q := h
  refine ev_a (fun he => ev_push rfl he) ?_
  cases h
  exact ⟨ev_retI rfl, hG⟩
def J_X11_lot_58 (N : Nat) (σ : aSt) : Option (Int32 × aSt) := some ((-1), σ)
set_option maxRecDepth 20000 in
set_option maxHeartbeats 4000000 in
theorem TJ_X11_lot_58 (xs : Nat → Int32) (L : Nat) (N : Nat) (d0 : Value) (d1 : Value) (d2 : Value) (d3 : Value) (d4 : Value) (d5 : Value) (σ : aSt) (q : Int32 × aSt) (h : J_X11_lot_58 N  σ = some q) (hG : Gr σ) : Ev xs L 98 58 [d0, d1, d2, d3, d4, d5] [] σ (wI q.1) q.2 ∧ Gr q.2 := by
  have h : (some ((-1), σ)) = some q := h
  refine ev_a (fun he => ev_push rfl he) ?_
  cases h
  exact ⟨ev_retI rfl, hG⟩
def F_X11_lot (N : Nat) (x1 : Int32) (x2 : Int32) (x3 : Int32) (x4 : Int32) (x5 : Int32) (σ : aSt) : Option (Int32 × aSt) := if (aI σ 0 8) = 0 then oB (F_X11_isBelow N x1 6 σ) fun y2 σ3 => if y2 = 0 then J_X11_lot_35 N σ3 else oB (F_X11_isBelow N x2 6 σ3) fun y8 σ9 => if y8 = 0 then J_X11_lot_35 N σ9 else oB (F_X11_isBelow N x3 4 σ9) fun y14 σ15 => if y14 ≠ 0 then oB (F_X11_isWithin N x4 1 20 σ15) fun y20 σ21 => if y20 = 0 then J_X11_lot_58 N σ21 else oB (F_X11_isBelow N x5 10 σ21) fun y26 σ27 => if y26 ≠ 0 then oB (F_X2_land N x1 x2 x3 x4 x5 σ27) fun y32 σ33 => some (y32, σ33) else J_X11_lot_58 N σ27 else J_X11_lot_35 N σ15 else some ((-1), σ)
set_option maxRecDepth 20000 in
set_option maxHeartbeats 4000000 in
theorem T_X11_lot (xs : Nat → Int32) (L : Nat) (N : Nat) (x1 : Int32) (x2 : Int32) (x3 : Int32) (x4 : Int32) (x5 : Int32) (σ : aSt) (q : Int32 × aSt) (h : F_X11_lot N x1 x2 x3 x4 x5 σ = some q) (hG : Gr σ) : Cal xs L 98 [.ref 0, .int x1, .int x2, .int x3, .int x4, .int x5] σ (wI q.1) q.2 ∧ Gr q.2 := by
  have h : (if (aI σ 0 8) = 0 then oB (F_X11_isBelow N x1 6 σ) fun y2 σ3 => if y2 = 0 then J_X11_lot_35 N σ3 else oB (F_X11_isBelow N x2 6 σ3) fun y8 σ9 => if y8 = 0 then J_X11_lot_35 N σ9 else oB (F_X11_isBelow N x3 4 σ9) fun y14 σ15 => if y14 ≠ 0 then oB (F_X11_isWithin N x4 1 20 σ15) fun y20 σ21 => if y20 = 0 then J_X11_lot_58 N σ21 else oB (F_X11_isBelow N x5 10 σ21) fun y26 σ27 => if y26 ≠ 0 then oB (F_X2_land N x1 x2 x3 x4 x5 σ27) fun y32 σ33 => some (y32, σ33) else J_X11_lot_58 N σ27 else J_X11_lot_35 N σ15 else some ((-1), σ)) = some q := h
  show Ev xs L 98 0 [.ref 0, .int x1, .int x2, .int x3, .int x4, .int x5] [] σ (wI q.1) q.2 ∧ Gr q.2
  refine ev_a (fun he => ev_aload rfl rfl he) ?_
  refine ev_a (fun he => ev_getI rfl (gr_ob (n := 9) hG rfl) he) ?_
  refine ev_b (c := (aI σ 0 8) = 0) (fun ht hf => ev_ifeq rfl ht hf) (fun hc1 => ?_) (fun hc1 => ?_)
  · rw [if_pos hc1] at h
    refine ev_a (fun he => ev_iload rfl rfl he) ?_
    refine ev_a (fun he => ev_push rfl he) ?_
    obtain ⟨y2, σ3, h4, h⟩ := oB_inv h
    obtain ⟨c5, hG6⟩ := T_X11_isBelow xs L N x1 6 σ (y2, σ3) h4 hG
    refine ev_a (fun he => ev_callS (as := [.int x1, .int 6]) rfl rfl rfl rfl (Nat.le_of_ble_eq_true rfl) (Nat.le_of_ble_eq_true rfl) c5 he) ?_
    refine ev_b (c := y2 = 0) (fun ht hf => ev_ifeq rfl ht hf) (fun hc7 => ?_) (fun hc7 => ?_)
    · rw [if_pos hc7] at h
      exact TJ_X11_lot_35 xs L N (.ref 0) (.int x1) (.int x2) (.int x3) (.int x4) (.int x5) σ3 q h hG6
    · rw [if_neg hc7] at h
      refine ev_a (fun he => ev_iload rfl rfl he) ?_
      refine ev_a (fun he => ev_push rfl he) ?_
      obtain ⟨y8, σ9, h10, h⟩ := oB_inv h
      obtain ⟨c11, hG12⟩ := T_X11_isBelow xs L N x2 6 σ3 (y8, σ9) h10 hG6
      refine ev_a (fun he => ev_callS (as := [.int x2, .int 6]) rfl rfl rfl rfl (Nat.le_of_ble_eq_true rfl) (Nat.le_of_ble_eq_true rfl) c11 he) ?_
      refine ev_b (c := y8 = 0) (fun ht hf => ev_ifeq rfl ht hf) (fun hc13 => ?_) (fun hc13 => ?_)
      · rw [if_pos hc13] at h
        exact TJ_X11_lot_35 xs L N (.ref 0) (.int x1) (.int x2) (.int x3) (.int x4) (.int x5) σ9 q h hG12
      · rw [if_neg hc13] at h
        refine ev_a (fun he => ev_iload rfl rfl he) ?_
        refine ev_a (fun he => ev_push rfl he) ?_
        obtain ⟨y14, σ15, h16, h⟩ := oB_inv h
        obtain ⟨c17, hG18⟩ := T_X11_isBelow xs L N x3 4 σ9 (y14, σ15) h16 hG12
        refine ev_a (fun he => ev_callS (as := [.int x3, .int 4]) rfl rfl rfl rfl (Nat.le_of_ble_eq_true rfl) (Nat.le_of_ble_eq_true rfl) c17 he) ?_
        refine ev_b (c := y14 ≠ 0) (fun ht hf => ev_ifne rfl ht hf) (fun hc19 => ?_) (fun hc19 => ?_)
        · rw [if_pos hc19] at h
          refine ev_a (fun he => ev_iload rfl rfl he) ?_
          refine ev_a (fun he => ev_push rfl he) ?_
          refine ev_a (fun he => ev_push rfl he) ?_
          obtain ⟨y20, σ21, h22, h⟩ := oB_inv h
          obtain ⟨c23, hG24⟩ := T_X11_isWithin xs L N x4 1 20 σ15 (y20, σ21) h22 hG18
          refine ev_a (fun he => ev_callS (as := [.int x4, .int 1, .int 20]) rfl rfl rfl rfl (Nat.le_of_ble_eq_true rfl) (Nat.le_of_ble_eq_true rfl) c23 he) ?_
          refine ev_b (c := y20 = 0) (fun ht hf => ev_ifeq rfl ht hf) (fun hc25 => ?_) (fun hc25 => ?_)
          · rw [if_pos hc25] at h
            exact TJ_X11_lot_58 xs L N (.ref 0) (.int x1) (.int x2) (.int x3) (.int x4) (.int x5) σ21 q h hG24
          · rw [if_neg hc25] at h
            refine ev_a (fun he => ev_iload rfl rfl he) ?_
            refine ev_a (fun he => ev_push rfl he) ?_
            obtain ⟨y26, σ27, h28, h⟩ := oB_inv h
            obtain ⟨c29, hG30⟩ := T_X11_isBelow xs L N x5 10 σ21 (y26, σ27) h28 hG24
            refine ev_a (fun he => ev_callS (as := [.int x5, .int 10]) rfl rfl rfl rfl (Nat.le_of_ble_eq_true rfl) (Nat.le_of_ble_eq_true rfl) c29 he) ?_
            refine ev_b (c := y26 ≠ 0) (fun ht hf => ev_ifne rfl ht hf) (fun hc31 => ?_) (fun hc31 => ?_)
            · rw [if_pos hc31] at h
              refine ev_a (fun he => ev_aload rfl rfl he) ?_
              refine ev_a (fun he => ev_getR rfl (gr_ob (n := 9) hG30 rfl) (gr_p (a := 0) (k := 1) (b := 11) hG30 rfl) he) ?_
              refine ev_a (fun he => ev_iload rfl rfl he) ?_
              refine ev_a (fun he => ev_iload rfl rfl he) ?_
              refine ev_a (fun he => ev_iload rfl rfl he) ?_
              refine ev_a (fun he => ev_iload rfl rfl he) ?_
              refine ev_a (fun he => ev_iload rfl rfl he) ?_
              obtain ⟨y32, σ33, h34, h⟩ := oB_inv h
              obtain ⟨c35, hG36⟩ := T_X2_land xs L N x1 x2 x3 x4 x5 σ27 (y32, σ33) h34 hG30
              refine ev_a (fun he => ev_callV (as := [.int x1, .int x2, .int x3, .int x4, .int x5]) rfl (gr_ob (n := 7) hG30 rfl) rfl rfl rfl (Nat.le_of_ble_eq_true rfl) (Nat.le_of_ble_eq_true rfl) c35 he) ?_
              cases h
              exact ⟨ev_retI rfl, hG36⟩
            · rw [if_neg hc31] at h
              exact TJ_X11_lot_58 xs L N (.ref 0) (.int x1) (.int x2) (.int x3) (.int x4) (.int x5) σ27 q h hG30
        · rw [if_neg hc19] at h
          exact TJ_X11_lot_35 xs L N (.ref 0) (.int x1) (.int x2) (.int x3) (.int x4) (.int x5) σ15 q h hG18
  · rw [if_neg hc1] at h
    refine ev_a (fun he => ev_push rfl he) ?_
    cases h
    exact ⟨ev_retI rfl, hG⟩
def J_X11_buyer_18 (N : Nat) (σ : aSt) : Option (Int32 × aSt) := some ((-1), σ)
set_option maxRecDepth 20000 in
set_option maxHeartbeats 4000000 in
theorem TJ_X11_buyer_18 (xs : Nat → Int32) (L : Nat) (N : Nat) (d0 : Value) (d1 : Value) (d2 : Value) (d3 : Value) (σ : aSt) (q : Int32 × aSt) (h : J_X11_buyer_18 N  σ = some q) (hG : Gr σ) : Ev xs L 99 18 [d0, d1, d2, d3] [] σ (wI q.1) q.2 ∧ Gr q.2 := by
  have h : (some ((-1), σ)) = some q := h
  refine ev_a (fun he => ev_push rfl he) ?_
  cases h
  exact ⟨ev_retI rfl, hG⟩
def J_X11_buyer_48 (N : Nat) (x3 : Int32) (σ : aSt) : Option (Int32 × aSt) := some (x3, σ)
set_option maxRecDepth 20000 in
set_option maxHeartbeats 4000000 in
theorem TJ_X11_buyer_48 (xs : Nat → Int32) (L : Nat) (N : Nat) (x3 : Int32) (d0 : Value) (d1 : Value) (d2 : Value) (σ : aSt) (q : Int32 × aSt) (h : J_X11_buyer_48 N x3 σ = some q) (hG : Gr σ) : Ev xs L 99 48 [d0, d1, d2, .int x3] [] σ (wI q.1) q.2 ∧ Gr q.2 := by
  have h : (some (x3, σ)) = some q := h
  refine ev_a (fun he => ev_iload rfl rfl he) ?_
  cases h
  exact ⟨ev_retI rfl, hG⟩
def F_X11_buyer (N : Nat) (x1 : Int32) (x2 : Int32) (σ : aSt) : Option (Int32 × aSt) := oB (F_X11_isBelow N x1 4 σ) fun y1 σ2 => if y1 = 0 then J_X11_buyer_18 N σ2 else oB (F_X11_isWithin N x2 0 1000000 σ2) fun y7 σ8 => if y7 ≠ 0 then oB (F_X2_admit N x1 x2 σ8) fun y13 σ14 => if y13 = ((-1)) then J_X11_buyer_48 N y13 σ14 else cO (¬ (y13 < 0 ∨ 6 ≤ y13.toNatClampNeg)) (oB (F_X7_open N (101 + 28 + 2 * y13.toNatClampNeg) x2 σ14) fun y20 σ21 => J_X11_buyer_48 N y13 σ21) else J_X11_buyer_18 N σ8
set_option maxRecDepth 20000 in
set_option maxHeartbeats 4000000 in
theorem T_X11_buyer (xs : Nat → Int32) (L : Nat) (N : Nat) (x1 : Int32) (x2 : Int32) (σ : aSt) (q : Int32 × aSt) (h : F_X11_buyer N x1 x2 σ = some q) (hG : Gr σ) : Cal xs L 99 [.ref 0, .int x1, .int x2] σ (wI q.1) q.2 ∧ Gr q.2 := by
  have h : (oB (F_X11_isBelow N x1 4 σ) fun y1 σ2 => if y1 = 0 then J_X11_buyer_18 N σ2 else oB (F_X11_isWithin N x2 0 1000000 σ2) fun y7 σ8 => if y7 ≠ 0 then oB (F_X2_admit N x1 x2 σ8) fun y13 σ14 => if y13 = ((-1)) then J_X11_buyer_48 N y13 σ14 else cO (¬ (y13 < 0 ∨ 6 ≤ y13.toNatClampNeg)) (oB (F_X7_open N (101 + 28 + 2 * y13.toNatClampNeg) x2 σ14) fun y20 σ21 => J_X11_buyer_48 N y13 σ21) else J_X11_buyer_18 N σ8) = some q := h
  show Ev xs L 99 0 [.ref 0, .int x1, .int x2, aU] [] σ (wI q.1) q.2 ∧ Gr q.2
  refine ev_a (fun he => ev_iload rfl rfl he) ?_
  refine ev_a (fun he => ev_push rfl he) ?_
  obtain ⟨y1, σ2, h3, h⟩ := oB_inv h
  obtain ⟨c4, hG5⟩ := T_X11_isBelow xs L N x1 4 σ (y1, σ2) h3 hG
  refine ev_a (fun he => ev_callS (as := [.int x1, .int 4]) rfl rfl rfl rfl (Nat.le_of_ble_eq_true rfl) (Nat.le_of_ble_eq_true rfl) c4 he) ?_
  refine ev_b (c := y1 = 0) (fun ht hf => ev_ifeq rfl ht hf) (fun hc6 => ?_) (fun hc6 => ?_)
  · rw [if_pos hc6] at h
    exact TJ_X11_buyer_18 xs L N (.ref 0) (.int x1) (.int x2) (aU) σ2 q h hG5
  · rw [if_neg hc6] at h
    refine ev_a (fun he => ev_iload rfl rfl he) ?_
    refine ev_a (fun he => ev_push rfl he) ?_
    refine ev_a (fun he => ev_push rfl he) ?_
    obtain ⟨y7, σ8, h9, h⟩ := oB_inv h
    obtain ⟨c10, hG11⟩ := T_X11_isWithin xs L N x2 0 1000000 σ2 (y7, σ8) h9 hG5
    refine ev_a (fun he => ev_callS (as := [.int x2, .int 0, .int 1000000]) rfl rfl rfl rfl (Nat.le_of_ble_eq_true rfl) (Nat.le_of_ble_eq_true rfl) c10 he) ?_
    refine ev_b (c := y7 ≠ 0) (fun ht hf => ev_ifne rfl ht hf) (fun hc12 => ?_) (fun hc12 => ?_)
    · rw [if_pos hc12] at h
      refine ev_a (fun he => ev_aload rfl rfl he) ?_
      refine ev_a (fun he => ev_getR rfl (gr_ob (n := 9) hG11 rfl) (gr_p (a := 0) (k := 1) (b := 11) hG11 rfl) he) ?_
      refine ev_a (fun he => ev_iload rfl rfl he) ?_
      refine ev_a (fun he => ev_iload rfl rfl he) ?_
      obtain ⟨y13, σ14, h15, h⟩ := oB_inv h
      obtain ⟨c16, hG17⟩ := T_X2_admit xs L N x1 x2 σ8 (y13, σ14) h15 hG11
      refine ev_a (fun he => ev_callV (as := [.int x1, .int x2]) rfl (gr_ob (n := 7) hG11 rfl) rfl rfl rfl (Nat.le_of_ble_eq_true rfl) (Nat.le_of_ble_eq_true rfl) c16 he) ?_
      refine ev_a (fun he => ev_istore (ls' := [.ref 0, .int x1, .int x2, .int y13]) rfl (Nat.le_of_ble_eq_true rfl) rfl he) ?_
      refine ev_a (fun he => ev_iload rfl rfl he) ?_
      refine ev_a (fun he => ev_push rfl he) ?_
      refine ev_b (c := y13 = ((-1))) (fun ht hf => ev_ceq rfl ht hf) (fun hc18 => ?_) (fun hc18 => ?_)
      · rw [if_pos hc18] at h
        exact TJ_X11_buyer_48 xs L N y13 (.ref 0) (.int x1) (.int x2) σ14 q h hG17
      · rw [if_neg hc18] at h
        refine ev_a (fun he => ev_aload rfl rfl he) ?_
        refine ev_a (fun he => ev_getR rfl (gr_ob (n := 9) hG17 rfl) (gr_p (a := 0) (k := 2) (b := 101) hG17 rfl) he) ?_
        refine ev_a (fun he => ev_getR rfl (gr_ob (n := 9) hG17 (sh_Sale0 sale_day)) (gr_p hG17 (gf_Sale2 sale_day)) he) ?_
        refine ev_a (fun he => ev_iload rfl rfl he) ?_
        obtain ⟨hc19, h⟩ := cO_inv h
        refine ev_a (fun he => ev_aldR rfl (gr_ar hG17 (sh_Sale2 sale_day)) (by decide) hc19 (gr_p hG17 (el_Pu sale_day hc19).1) he) ?_
        refine ev_a (fun he => ev_iload rfl rfl he) ?_
        obtain ⟨y20, σ21, h22, h⟩ := oB_inv h
        obtain ⟨c23, hG24⟩ := T_X7_open xs L N (101 + 28 + 2 * y13.toNatClampNeg) x2 σ14 (y20, σ21) h22 hG17 (el_Pu sale_day hc19).2
        refine ev_a (fun he => ev_callV (as := [.int x2]) rfl (gr_ob (n := 5) hG17 (sh_Pu0 (el_Pu sale_day hc19).2)) rfl rfl rfl (Nat.le_of_ble_eq_true rfl) (Nat.le_of_ble_eq_true rfl) c23 he) ?_
        exact TJ_X11_buyer_48 xs L N y13 (.ref 0) (.int x1) (.int x2) σ21 q h hG24
    · rw [if_neg hc12] at h
      exact TJ_X11_buyer_18 xs L N (.ref 0) (.int x1) (.int x2) (aU) σ8 q h hG11
def J_X11_want_31 (N : Nat) (σ : aSt) : Option (Int32 × aSt) := cO (vp_nar .boolean 0 = 0) (some (0, σ))
set_option maxRecDepth 20000 in
set_option maxHeartbeats 4000000 in
theorem TJ_X11_want_31 (xs : Nat → Int32) (L : Nat) (N : Nat) (d0 : Value) (d1 : Value) (d2 : Value) (d3 : Value) (σ : aSt) (q : Int32 × aSt) (h : J_X11_want_31 N  σ = some q) (hG : Gr σ) : Ev xs L 100 31 [d0, d1, d2, d3] [] σ (wI q.1) q.2 ∧ Gr q.2 := by
  have h : (cO (vp_nar .boolean 0 = 0) (some (0, σ))) = some q := h
  refine ev_a (fun he => ev_push rfl he) ?_
  obtain ⟨hc1, h⟩ := cO_inv h
  cases h
  exact ⟨ev_retZ rfl hc1, hG⟩
def F_X11_want (N : Nat) (x1 : Int32) (x2 : Int32) (x3 : Int32) (σ : aSt) : Option (Int32 × aSt) := oB (F_X2_hasBuyer N x1 σ) fun y2 σ3 => if y2 = 0 then J_X11_want_31 N σ3 else oB (F_X11_isBelow N x2 6 σ3) fun y8 σ9 => if y8 = 0 then J_X11_want_31 N σ9 else oB (F_X11_isWithin N x3 0 500 σ9) fun y14 σ15 => if y14 ≠ 0 then cO (¬ (x1 < 0 ∨ 6 ≤ x1.toNatClampNeg)) (cO (¬ (x2 < 0 ∨ 6 ≤ x2.toNatClampNeg)) (lt (aWI σ15 (47 + 9 * x1.toNatClampNeg + 1) x2.toNatClampNeg x3) fun σ22 => cO (vp_nar .boolean 1 = 1) (some (1, σ22)))) else J_X11_want_31 N σ15
set_option maxRecDepth 20000 in
set_option maxHeartbeats 4000000 in
theorem T_X11_want (xs : Nat → Int32) (L : Nat) (N : Nat) (x1 : Int32) (x2 : Int32) (x3 : Int32) (σ : aSt) (q : Int32 × aSt) (h : F_X11_want N x1 x2 x3 σ = some q) (hG : Gr σ) : Cal xs L 100 [.ref 0, .int x1, .int x2, .int x3] σ (wI q.1) q.2 ∧ Gr q.2 := by
  have h : (oB (F_X2_hasBuyer N x1 σ) fun y2 σ3 => if y2 = 0 then J_X11_want_31 N σ3 else oB (F_X11_isBelow N x2 6 σ3) fun y8 σ9 => if y8 = 0 then J_X11_want_31 N σ9 else oB (F_X11_isWithin N x3 0 500 σ9) fun y14 σ15 => if y14 ≠ 0 then cO (¬ (x1 < 0 ∨ 6 ≤ x1.toNatClampNeg)) (cO (¬ (x2 < 0 ∨ 6 ≤ x2.toNatClampNeg)) (lt (aWI σ15 (47 + 9 * x1.toNatClampNeg + 1) x2.toNatClampNeg x3) fun σ22 => cO (vp_nar .boolean 1 = 1) (some (1, σ22)))) else J_X11_want_31 N σ15) = some q := h
  show Ev xs L 100 0 [.ref 0, .int x1, .int x2, .int x3] [] σ (wI q.1) q.2 ∧ Gr q.2
  refine ev_a (fun he => ev_aload rfl rfl he) ?_
  refine ev_a (fun he => ev_getR rfl (gr_ob (n := 9) hG rfl) (gr_p (a := 0) (k := 1) (b := 11) hG rfl) he) ?_
  refine ev_a (fun he => ev_iload rfl rfl he) ?_
  obtain ⟨y2, σ3, h4, h⟩ := oB_inv h
  obtain ⟨c5, hG6⟩ := T_X2_hasBuyer xs L N x1 σ (y2, σ3) h4 hG
  refine ev_a (fun he => ev_callV (as := [.int x1]) rfl (gr_ob (n := 7) hG rfl) rfl rfl rfl (Nat.le_of_ble_eq_true rfl) (Nat.le_of_ble_eq_true rfl) c5 he) ?_
  refine ev_b (c := y2 = 0) (fun ht hf => ev_ifeq rfl ht hf) (fun hc7 => ?_) (fun hc7 => ?_)
  · rw [if_pos hc7] at h
    exact TJ_X11_want_31 xs L N (.ref 0) (.int x1) (.int x2) (.int x3) σ3 q h hG6
  · rw [if_neg hc7] at h
    refine ev_a (fun he => ev_iload rfl rfl he) ?_
    refine ev_a (fun he => ev_push rfl he) ?_
    obtain ⟨y8, σ9, h10, h⟩ := oB_inv h
    obtain ⟨c11, hG12⟩ := T_X11_isBelow xs L N x2 6 σ3 (y8, σ9) h10 hG6
    refine ev_a (fun he => ev_callS (as := [.int x2, .int 6]) rfl rfl rfl rfl (Nat.le_of_ble_eq_true rfl) (Nat.le_of_ble_eq_true rfl) c11 he) ?_
    refine ev_b (c := y8 = 0) (fun ht hf => ev_ifeq rfl ht hf) (fun hc13 => ?_) (fun hc13 => ?_)
    · rw [if_pos hc13] at h
      exact TJ_X11_want_31 xs L N (.ref 0) (.int x1) (.int x2) (.int x3) σ9 q h hG12
    · rw [if_neg hc13] at h
      refine ev_a (fun he => ev_iload rfl rfl he) ?_
      refine ev_a (fun he => ev_push rfl he) ?_
      refine ev_a (fun he => ev_push rfl he) ?_
      obtain ⟨y14, σ15, h16, h⟩ := oB_inv h
      obtain ⟨c17, hG18⟩ := T_X11_isWithin xs L N x3 0 500 σ9 (y14, σ15) h16 hG12
      refine ev_a (fun he => ev_callS (as := [.int x3, .int 0, .int 500]) rfl rfl rfl rfl (Nat.le_of_ble_eq_true rfl) (Nat.le_of_ble_eq_true rfl) c17 he) ?_
      refine ev_b (c := y14 ≠ 0) (fun ht hf => ev_ifne rfl ht hf) (fun hc19 => ?_) (fun hc19 => ?_)
      · rw [if_pos hc19] at h
        refine ev_a (fun he => ev_aload rfl rfl he) ?_
        refine ev_a (fun he => ev_getR rfl (gr_ob (n := 9) hG18 rfl) (gr_p (a := 0) (k := 1) (b := 11) hG18 rfl) he) ?_
        refine ev_a (fun he => ev_getR rfl (gr_ob (n := 7) hG18 rfl) (gr_p (a := 11) (k := 2) (b := 13) hG18 rfl) he) ?_
        refine ev_a (fun he => ev_iload rfl rfl he) ?_
        obtain ⟨hc20, h⟩ := cO_inv h
        refine ev_a (fun he => ev_aldR rfl (gr_ar hG18 rfl) (by decide) hc20 (gr_p hG18 (el_Bu hc20).1) he) ?_
        refine ev_a (fun he => ev_getR rfl (gr_ob (n := 4) hG18 (sh_Bu0 (el_Bu hc20).2)) (gr_p hG18 (gf_Bu2 (el_Bu hc20).2)) he) ?_
        refine ev_a (fun he => ev_iload rfl rfl he) ?_
        refine ev_a (fun he => ev_iload rfl rfl he) ?_
        obtain ⟨hc21, h⟩ := cO_inv h
        obtain ⟨σ22, e23, h⟩ := lt_inv h
        have hG24 : Gr σ22 := gr_wi e23 hG18
        refine ev_a (fun he => ev_astI (k := x2.toNatClampNeg) rfl (gr_ar hG18 (sh_Bu1 (el_Bu hc20).2)) hc21 rfl rfl e23 he) ?_
        refine ev_a (fun he => ev_push rfl he) ?_
        obtain ⟨hc25, h⟩ := cO_inv h
        cases h
        exact ⟨ev_retZ rfl hc25, hG24⟩
      · rw [if_neg hc19] at h
        exact TJ_X11_want_31 xs L N (.ref 0) (.int x1) (.int x2) (.int x3) σ15 q h hG18
def J_X11_lorry_17 (N : Nat) (σ : aSt) : Option (Int32 × aSt) := some ((-1), σ)
set_option maxRecDepth 20000 in
set_option maxHeartbeats 4000000 in
theorem TJ_X11_lorry_17 (xs : Nat → Int32) (L : Nat) (N : Nat) (d0 : Value) (d1 : Value) (d2 : Value) (d3 : Value) (d4 : Value) (σ : aSt) (q : Int32 × aSt) (h : J_X11_lorry_17 N  σ = some q) (hG : Gr σ) : Ev xs L 101 17 [d0, d1, d2, d3, d4] [] σ (wI q.1) q.2 ∧ Gr q.2 := by
  have h : (some ((-1), σ)) = some q := h
  refine ev_a (fun he => ev_push rfl he) ?_
  cases h
  exact ⟨ev_retI rfl, hG⟩
def J_X11_lorry_39 (N : Nat) (σ : aSt) : Option (Int32 × aSt) := some ((-1), σ)
set_option maxRecDepth 20000 in
set_option maxHeartbeats 4000000 in
theorem TJ_X11_lorry_39 (xs : Nat → Int32) (L : Nat) (N : Nat) (d0 : Value) (d1 : Value) (d2 : Value) (d3 : Value) (d4 : Value) (σ : aSt) (q : Int32 × aSt) (h : J_X11_lorry_39 N  σ = some q) (hG : Gr σ) : Ev xs L 101 39 [d0, d1, d2, d3, d4] [] σ (wI q.1) q.2 ∧ Gr q.2 := by
  have h : (some ((-1), σ)) = some q := h
  refine ev_a (fun he => ev_push rfl he) ?_
  cases h
  exact ⟨ev_retI rfl, hG⟩
def J_X11_lorry_101 (N : Nat) (x4 : Int32) (σ : aSt) : Option (Int32 × aSt) := some (x4, σ)
set_option maxRecDepth 20000 in
set_option maxHeartbeats 4000000 in
theorem TJ_X11_lorry_101 (xs : Nat → Int32) (L : Nat) (N : Nat) (x4 : Int32) (d0 : Value) (d1 : Value) (d2 : Value) (d3 : Value) (σ : aSt) (q : Int32 × aSt) (h : J_X11_lorry_101 N x4 σ = some q) (hG : Gr σ) : Ev xs L 101 101 [d0, d1, d2, d3, .int x4] [] σ (wI q.1) q.2 ∧ Gr q.2 := by
  have h : (some (x4, σ)) = some q := h
  refine ev_a (fun he => ev_iload rfl rfl he) ?_
  cases h
  exact ⟨ev_retI rfl, hG⟩
def F_X11_lorry (N : Nat) (x1 : Int32) (x2 : Int32) (x3 : Int32) (σ : aSt) : Option (Int32 × aSt) := if 6 ≤ (aI σ 0 6) then J_X11_lorry_17 N σ else oB (F_X11_isBelow N x1 4 σ) fun y2 σ3 => if y2 ≠ 0 then oB (F_X11_isWithin N x2 1 60 σ3) fun y8 σ9 => if y8 = 0 then J_X11_lorry_39 N σ9 else oB (F_X11_isWithin N x3 0 99999 σ9) fun y14 σ15 => if y14 ≠ 0 then lt (aWI σ15 0 6 ((aI σ15 0 6) + 1)) fun σ20 => cO (¬ ((aI σ15 0 6) < 0 ∨ 6 ≤ (aI σ15 0 6).toNatClampNeg)) (oB (F_X4_order N (223 + 2 * (aI σ15 0 6).toNatClampNeg) x1 x2 x3 σ20) fun y24 σ25 => if (aI σ25 0 8) = 0 then J_X11_lorry_101 N (aI σ15 0 6) σ25 else cO (¬ ((aI σ15 0 6) < 0 ∨ 6 ≤ (aI σ15 0 6).toNatClampNeg)) (oB (F_X3_fill N (223 + 2 * (aI σ15 0 6).toNatClampNeg) (aI σ15 0 6) 101 σ25) fun y31 σ32 => J_X11_lorry_101 N (aI σ15 0 6) σ32)) else J_X11_lorry_39 N σ15 else J_X11_lorry_17 N σ3
set_option maxRecDepth 20000 in
set_option maxHeartbeats 4000000 in
theorem T_X11_lorry (xs : Nat → Int32) (L : Nat) (N : Nat) (x1 : Int32) (x2 : Int32) (x3 : Int32) (σ : aSt) (q : Int32 × aSt) (h : F_X11_lorry N x1 x2 x3 σ = some q) (hG : Gr σ) : Cal xs L 101 [.ref 0, .int x1, .int x2, .int x3] σ (wI q.1) q.2 ∧ Gr q.2 := by
  have h : (if 6 ≤ (aI σ 0 6) then J_X11_lorry_17 N σ else oB (F_X11_isBelow N x1 4 σ) fun y2 σ3 => if y2 ≠ 0 then oB (F_X11_isWithin N x2 1 60 σ3) fun y8 σ9 => if y8 = 0 then J_X11_lorry_39 N σ9 else oB (F_X11_isWithin N x3 0 99999 σ9) fun y14 σ15 => if y14 ≠ 0 then lt (aWI σ15 0 6 ((aI σ15 0 6) + 1)) fun σ20 => cO (¬ ((aI σ15 0 6) < 0 ∨ 6 ≤ (aI σ15 0 6).toNatClampNeg)) (oB (F_X4_order N (223 + 2 * (aI σ15 0 6).toNatClampNeg) x1 x2 x3 σ20) fun y24 σ25 => if (aI σ25 0 8) = 0 then J_X11_lorry_101 N (aI σ15 0 6) σ25 else cO (¬ ((aI σ15 0 6) < 0 ∨ 6 ≤ (aI σ15 0 6).toNatClampNeg)) (oB (F_X3_fill N (223 + 2 * (aI σ15 0 6).toNatClampNeg) (aI σ15 0 6) 101 σ25) fun y31 σ32 => J_X11_lorry_101 N (aI σ15 0 6) σ32)) else J_X11_lorry_39 N σ15 else J_X11_lorry_17 N σ3) = some q := h
  show Ev xs L 101 0 [.ref 0, .int x1, .int x2, .int x3, aU] [] σ (wI q.1) q.2 ∧ Gr q.2
  refine ev_a (fun he => ev_aload rfl rfl he) ?_
  refine ev_a (fun he => ev_getI rfl (gr_ob (n := 9) hG rfl) he) ?_
  refine ev_a (fun he => ev_push rfl he) ?_
  refine ev_b (c := 6 ≤ (aI σ 0 6)) (fun ht hf => ev_cge rfl ht hf) (fun hc1 => ?_) (fun hc1 => ?_)
  · rw [if_pos hc1] at h
    exact TJ_X11_lorry_17 xs L N (.ref 0) (.int x1) (.int x2) (.int x3) (aU) σ q h hG
  · rw [if_neg hc1] at h
    refine ev_a (fun he => ev_iload rfl rfl he) ?_
    refine ev_a (fun he => ev_push rfl he) ?_
    obtain ⟨y2, σ3, h4, h⟩ := oB_inv h
    obtain ⟨c5, hG6⟩ := T_X11_isBelow xs L N x1 4 σ (y2, σ3) h4 hG
    refine ev_a (fun he => ev_callS (as := [.int x1, .int 4]) rfl rfl rfl rfl (Nat.le_of_ble_eq_true rfl) (Nat.le_of_ble_eq_true rfl) c5 he) ?_
    refine ev_b (c := y2 ≠ 0) (fun ht hf => ev_ifne rfl ht hf) (fun hc7 => ?_) (fun hc7 => ?_)
    · rw [if_pos hc7] at h
      refine ev_a (fun he => ev_iload rfl rfl he) ?_
      refine ev_a (fun he => ev_push rfl he) ?_
      refine ev_a (fun he => ev_push rfl he) ?_
      obtain ⟨y8, σ9, h10, h⟩ := oB_inv h
      obtain ⟨c11, hG12⟩ := T_X11_isWithin xs L N x2 1 60 σ3 (y8, σ9) h10 hG6
      refine ev_a (fun he => ev_callS (as := [.int x2, .int 1, .int 60]) rfl rfl rfl rfl (Nat.le_of_ble_eq_true rfl) (Nat.le_of_ble_eq_true rfl) c11 he) ?_
      refine ev_b (c := y8 = 0) (fun ht hf => ev_ifeq rfl ht hf) (fun hc13 => ?_) (fun hc13 => ?_)
      · rw [if_pos hc13] at h
        exact TJ_X11_lorry_39 xs L N (.ref 0) (.int x1) (.int x2) (.int x3) (aU) σ9 q h hG12
      · rw [if_neg hc13] at h
        refine ev_a (fun he => ev_iload rfl rfl he) ?_
        refine ev_a (fun he => ev_push rfl he) ?_
        refine ev_a (fun he => ev_push rfl he) ?_
        obtain ⟨y14, σ15, h16, h⟩ := oB_inv h
        obtain ⟨c17, hG18⟩ := T_X11_isWithin xs L N x3 0 99999 σ9 (y14, σ15) h16 hG12
        refine ev_a (fun he => ev_callS (as := [.int x3, .int 0, .int 99999]) rfl rfl rfl rfl (Nat.le_of_ble_eq_true rfl) (Nat.le_of_ble_eq_true rfl) c17 he) ?_
        refine ev_b (c := y14 ≠ 0) (fun ht hf => ev_ifne rfl ht hf) (fun hc19 => ?_) (fun hc19 => ?_)
        · rw [if_pos hc19] at h
          refine ev_a (fun he => ev_aload rfl rfl he) ?_
          refine ev_a (fun he => ev_getI rfl (gr_ob (n := 9) hG18 rfl) he) ?_
          refine ev_a (fun he => ev_istore (ls' := [.ref 0, .int x1, .int x2, .int x3, .int (aI σ15 0 6)]) rfl (Nat.le_of_ble_eq_true rfl) rfl he) ?_
          refine ev_a (fun he => ev_aload rfl rfl he) ?_
          refine ev_a (fun he => ev_dupR rfl he) ?_
          refine ev_a (fun he => ev_getI rfl (gr_ob (n := 9) hG18 rfl) he) ?_
          refine ev_a (fun he => ev_push rfl he) ?_
          refine ev_a (fun he => ev_bin (z := (aI σ15 0 6) + 1) rfl rfl he) ?_
          obtain ⟨σ20, e21, h⟩ := lt_inv h
          have hG22 : Gr σ20 := gr_wi e21 hG18
          refine ev_a (fun he => ev_putI rfl (gr_ob (n := 9) hG18 rfl) e21 he) ?_
          refine ev_a (fun he => ev_aload rfl rfl he) ?_
          refine ev_a (fun he => ev_getR rfl (gr_ob (n := 9) hG22 rfl) (gr_p (a := 0) (k := 5) (b := 222) hG22 rfl) he) ?_
          refine ev_a (fun he => ev_iload rfl rfl he) ?_
          obtain ⟨hc23, h⟩ := cO_inv h
          refine ev_a (fun he => ev_aldR rfl (gr_ar hG22 rfl) (by decide) hc23 (gr_p hG22 (el_Ly hc23).1) he) ?_
          refine ev_a (fun he => ev_iload rfl rfl he) ?_
          refine ev_a (fun he => ev_iload rfl rfl he) ?_
          refine ev_a (fun he => ev_iload rfl rfl he) ?_
          obtain ⟨y24, σ25, h26, h⟩ := oB_inv h
          obtain ⟨c27, hG28⟩ := T_X4_order xs L N (223 + 2 * (aI σ15 0 6).toNatClampNeg) x1 x2 x3 σ20 (y24, σ25) h26 hG22 (el_Ly hc23).2
          refine ev_a (fun he => ev_callV (as := [.int x1, .int x2, .int x3]) rfl (gr_ob (n := 6) hG22 (sh_Ly0 (el_Ly hc23).2)) rfl rfl rfl (Nat.le_of_ble_eq_true rfl) (Nat.le_of_ble_eq_true rfl) c27 he) ?_
          refine ev_a (fun he => ev_aload rfl rfl he) ?_
          refine ev_a (fun he => ev_getI rfl (gr_ob (n := 9) hG28 rfl) he) ?_
          refine ev_b (c := (aI σ25 0 8) = 0) (fun ht hf => ev_ifeq rfl ht hf) (fun hc29 => ?_) (fun hc29 => ?_)
          · rw [if_pos hc29] at h
            exact TJ_X11_lorry_101 xs L N (aI σ15 0 6) (.ref 0) (.int x1) (.int x2) (.int x3) σ25 q h hG28
          · rw [if_neg hc29] at h
            refine ev_a (fun he => ev_aload rfl rfl he) ?_
            refine ev_a (fun he => ev_getR rfl (gr_ob (n := 9) hG28 rfl) (gr_p (a := 0) (k := 4) (b := 193) hG28 rfl) he) ?_
            refine ev_a (fun he => ev_aload rfl rfl he) ?_
            refine ev_a (fun he => ev_getR rfl (gr_ob (n := 9) hG28 rfl) (gr_p (a := 0) (k := 5) (b := 222) hG28 rfl) he) ?_
            refine ev_a (fun he => ev_iload rfl rfl he) ?_
            obtain ⟨hc30, h⟩ := cO_inv h
            refine ev_a (fun he => ev_aldR rfl (gr_ar hG28 rfl) (by decide) hc30 (gr_p hG28 (el_Ly hc30).1) he) ?_
            refine ev_a (fun he => ev_iload rfl rfl he) ?_
            refine ev_a (fun he => ev_aload rfl rfl he) ?_
            refine ev_a (fun he => ev_getR rfl (gr_ob (n := 9) hG28 rfl) (gr_p (a := 0) (k := 1) (b := 11) hG28 rfl) he) ?_
            refine ev_a (fun he => ev_aload rfl rfl he) ?_
            refine ev_a (fun he => ev_getR rfl (gr_ob (n := 9) hG28 rfl) (gr_p (a := 0) (k := 2) (b := 101) hG28 rfl) he) ?_
            obtain ⟨y31, σ32, h33, h⟩ := oB_inv h
            obtain ⟨c34, hG35⟩ := T_X3_fill xs L N (223 + 2 * (aI σ15 0 6).toNatClampNeg) (aI σ15 0 6) 101 σ25 (y31, σ32) h33 hG28 (el_Ly hc30).2 sale_day
            refine ev_a (fun he => ev_callV (as := [.ref (223 + 2 * (aI σ15 0 6).toNatClampNeg), .int (aI σ15 0 6), .ref 11, .ref 101]) rfl (gr_ob (n := 4) hG28 rfl) rfl rfl rfl (Nat.le_of_ble_eq_true rfl) (Nat.le_of_ble_eq_true rfl) c34 he) ?_
            exact TJ_X11_lorry_101 xs L N (aI σ15 0 6) (.ref 0) (.int x1) (.int x2) (.int x3) σ32 q h hG35
        · rw [if_neg hc19] at h
          exact TJ_X11_lorry_39 xs L N (.ref 0) (.int x1) (.int x2) (.int x3) (aU) σ15 q h hG18
    · rw [if_neg hc7] at h
      exact TJ_X11_lorry_17 xs L N (.ref 0) (.int x1) (.int x2) (.int x3) (aU) σ3 q h hG6
