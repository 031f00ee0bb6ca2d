def J_X11_last_22 (N : Nat) (s0 : Int32) (σ : aSt) : Option (Int32 × aSt) := some (s0, σ)
set_option maxRecDepth 20000 in
set_option maxHeartbeats 4000000 in
theorem TJ_X11_last_22 (xs : Nat → Int32) (L : Nat) (N : Nat) (s0 : Int32) (d0 : Value) (d1 : Value) (σ : aSt) (q : Int32 × aSt) (h : J_X11_last_22 N s0 σ = some q) (hG : Gr σ) : Ev xs L 108 22 [d0, d1] [.int s0] σ (wI q.1) q.2 ∧ Gr q.2 := by
  have h : (some (s0, σ)) = some q := h
  cases h
  exact ⟨ev_retI rfl, hG⟩
def F_X11_last (N : Nat) (x1 : Int32) (σ : aSt) : Option (Int32 × aSt) := oB (F_X11_isBelow N x1 6 σ) fun y1 σ2 => if y1 = 0 then J_X11_last_22 N 0 σ2 else cO (¬ (x1 < 0 ∨ 6 ≤ x1.toNatClampNeg)) (J_X11_last_22 N (aI σ2 14 x1.toNatClampNeg) σ2)
set_option maxRecDepth 20000 in
set_option maxHeartbeats 4000000 in
theorem T_X11_last (xs : Nat → Int32) (L : Nat) (N : Nat) (x1 : Int32) (σ : aSt) (q : Int32 × aSt) (h : F_X11_last N x1 σ = some q) (hG : Gr σ) : Cal xs L 108 [.ref 0, .int x1] σ (wI q.1) q.2 ∧ Gr q.2 := by
  have h : (oB (F_X11_isBelow N x1 6 σ) fun y1 σ2 => if y1 = 0 then J_X11_last_22 N 0 σ2 else cO (¬ (x1 < 0 ∨ 6 ≤ x1.toNatClampNeg)) (J_X11_last_22 N (aI σ2 14 x1.toNatClampNeg) σ2)) = some q := h
  show Ev xs L 108 0 [.ref 0, .int x1] [] σ (wI q.1) q.2 ∧ Gr q.2
  refine ev_a (fun he => ev_iload rfl rfl he) ?_
  refine ev_a (fun he => ev_push rfl he) ?_
  obtain ⟨y1, σ2, h3, h⟩ := oB_inv h
  obtain ⟨c4, hG5⟩ := T_X11_isBelow xs L N x1 6 σ (y1, σ2) h3 hG
  refine ev_a (fun he => ev_callS (as := [.int x1, .int 6]) rfl rfl rfl rfl (Nat.le_of_ble_eq_true rfl) (Nat.le_of_ble_eq_true rfl) c4 he) ?_
  refine ev_b (c := y1 = 0) (fun ht hf => ev_ifeq rfl ht hf) (fun hc6 => ?_) (fun hc6 => ?_)
  · rw [if_pos hc6] at h
    refine ev_a (fun he => ev_push rfl he) ?_
    exact TJ_X11_last_22 xs L N 0 (.ref 0) (.int x1) σ2 q h hG5
  · rw [if_neg hc6] at h
    refine ev_a (fun he => ev_aload rfl rfl he) ?_
    refine ev_a (fun he => ev_getR rfl (gr_ob (n := 9) hG5 rfl) (gr_p (a := 0) (k := 1) (b := 11) hG5 rfl) he) ?_
    refine ev_a (fun he => ev_getR rfl (gr_ob (n := 7) hG5 rfl) (gr_p (a := 11) (k := 4) (b := 14) hG5 rfl) he) ?_
    refine ev_a (fun he => ev_iload rfl rfl he) ?_
    obtain ⟨hc7, h⟩ := cO_inv h
    refine ev_a (fun he => ev_aldI (k := x1.toNatClampNeg) rfl (gr_ar hG5 rfl) hc7 rfl he) ?_
    refine ev_a (fun he => ev_goto rfl he) ?_
    exact TJ_X11_last_22 xs L N (aI σ2 14 x1.toNatClampNeg) (.ref 0) (.int x1) σ2 q h hG5
def J_X11_gets_28 (N : Nat) (s0 : Int32) (σ : aSt) : Option (Int32 × aSt) := some (s0, σ)
set_option maxRecDepth 20000 in
set_option maxHeartbeats 4000000 in
theorem TJ_X11_gets_28 (xs : Nat → Int32) (L : Nat) (N : Nat) (s0 : Int32) (d0 : Value) (d1 : Value) (σ : aSt) (q : Int32 × aSt) (h : J_X11_gets_28 N s0 σ = some q) (hG : Gr σ) : Ev xs L 109 28 [d0, d1] [.int s0] σ (wI q.1) q.2 ∧ Gr q.2 := by
  have h : (some (s0, σ)) = some q := h
  cases h
  exact ⟨ev_retI rfl, hG⟩
def J_X11_gets_27 (N : Nat) (σ : aSt) : Option (Int32 × aSt) := J_X11_gets_28 N ((-1)) σ
set_option maxRecDepth 20000 in
set_option maxHeartbeats 4000000 in
theorem TJ_X11_gets_27 (xs : Nat → Int32) (L : Nat) (N : Nat) (d0 : Value) (d1 : Value) (σ : aSt) (q : Int32 × aSt) (h : J_X11_gets_27 N  σ = some q) (hG : Gr σ) : Ev xs L 109 27 [d0, d1] [] σ (wI q.1) q.2 ∧ Gr q.2 := by
  have h : (J_X11_gets_28 N ((-1)) σ) = some q := h
  refine ev_a (fun he => ev_push rfl he) ?_
  exact TJ_X11_gets_28 xs L N ((-1)) (d0) (d1) σ q h hG
def F_X11_gets (N : Nat) (x1 : Int32) (σ : aSt) : Option (Int32 × aSt) := if (aI σ 0 8) = 0 then J_X11_gets_27 N σ else oB (F_X11_isBelow N x1 6 σ) fun y2 σ3 => if y2 = 0 then J_X11_gets_27 N σ3 else oB (F_X9_takingsOf N 101 x1 σ3) fun y8 σ9 => J_X11_gets_28 N y8 σ9
set_option maxRecDepth 20000 in
set_option maxHeartbeats 4000000 in
theorem T_X11_gets (xs : Nat → Int32) (L : Nat) (N : Nat) (x1 : Int32) (σ : aSt) (q : Int32 × aSt) (h : F_X11_gets N x1 σ = some q) (hG : Gr σ) : Cal xs L 109 [.ref 0, .int x1] σ (wI q.1) q.2 ∧ Gr q.2 := by
  have h : (if (aI σ 0 8) = 0 then J_X11_gets_27 N σ else oB (F_X11_isBelow N x1 6 σ) fun y2 σ3 => if y2 = 0 then J_X11_gets_27 N σ3 else oB (F_X9_takingsOf N 101 x1 σ3) fun y8 σ9 => J_X11_gets_28 N y8 σ9) = some q := h
  show Ev xs L 109 0 [.ref 0, .int x1] [] σ (wI q.1) q.2 ∧ Gr q.2
  refine ev_a (fun he => ev_aload rfl rfl he) ?_
  refine ev_a (fun he => ev_getI rfl (gr_ob (n := 9) hG rfl) he) ?_
  refine ev_b (c := (aI σ 0 8) = 0) (fun ht hf => ev_ifeq rfl ht hf) (fun hc1 => ?_) (fun hc1 => ?_)
  · rw [if_pos hc1] at h
    exact TJ_X11_gets_27 xs L N (.ref 0) (.int x1) σ q h hG
  · rw [if_neg hc1] at h
    refine ev_a (fun he => ev_iload rfl rfl he) ?_
    refine ev_a (fun he => ev_push rfl he) ?_
    obtain ⟨y2, σ3, h4, h⟩ := oB_inv h
    obtain ⟨c5, hG6⟩ := T_X11_isBelow xs L N x1 6 σ (y2, σ3) h4 hG
    refine ev_a (fun he => ev_callS (as := [.int x1, .int 6]) rfl rfl rfl rfl (Nat.le_of_ble_eq_true rfl) (Nat.le_of_ble_eq_true rfl) c5 he) ?_
    refine ev_b (c := y2 = 0) (fun ht hf => ev_ifeq rfl ht hf) (fun hc7 => ?_) (fun hc7 => ?_)
    · rw [if_pos hc7] at h
      exact TJ_X11_gets_27 xs L N (.ref 0) (.int x1) σ3 q h hG6
    · rw [if_neg hc7] at h
      refine ev_a (fun he => ev_aload rfl rfl he) ?_
      refine ev_a (fun he => ev_getR rfl (gr_ob (n := 9) hG6 rfl) (gr_p (a := 0) (k := 2) (b := 101) hG6 rfl) he) ?_
      refine ev_a (fun he => ev_iload rfl rfl he) ?_
      obtain ⟨y8, σ9, h10, h⟩ := oB_inv h
      obtain ⟨c11, hG12⟩ := T_X9_takingsOf xs L N 101 x1 σ3 (y8, σ9) h10 hG6 sale_day
      refine ev_a (fun he => ev_callV (as := [.int x1]) rfl (gr_ob (n := 9) hG6 (sh_Sale0 sale_day)) rfl rfl rfl (Nat.le_of_ble_eq_true rfl) (Nat.le_of_ble_eq_true rfl) c11 he) ?_
      refine ev_a (fun he => ev_goto rfl he) ?_
      exact TJ_X11_gets_28 xs L N y8 (.ref 0) (.int x1) σ9 q h hG12
def J_X11_sum_19 (N : Nat) (s0 : Int32) (σ : aSt) : Option (Int32 × aSt) := some (s0, σ)
set_option maxRecDepth 20000 in
set_option maxHeartbeats 4000000 in
theorem TJ_X11_sum_19 (xs : Nat → Int32) (L : Nat) (N : Nat) (s0 : Int32) (d0 : Value) (d1 : Value) (σ : aSt) (q : Int32 × aSt) (h : J_X11_sum_19 N s0 σ = some q) (hG : Gr σ) : Ev xs L 110 19 [d0, d1] [.int s0] σ (wI q.1) q.2 ∧ Gr q.2 := by
  have h : (some (s0, σ)) = some q := h
  cases h
  exact ⟨ev_retI rfl, hG⟩
def F_X11_sum (N : Nat) (x1 : Int32) (σ : aSt) : Option (Int32 × aSt) := if (aI σ 0 8) = 0 then J_X11_sum_19 N ((-1)) σ else oB (F_X9_total N 101 x1 σ) fun y2 σ3 => J_X11_sum_19 N y2 σ3
set_option maxRecDepth 20000 in
set_option maxHeartbeats 4000000 in
theorem T_X11_sum (xs : Nat → Int32) (L : Nat) (N : Nat) (x1 : Int32) (σ : aSt) (q : Int32 × aSt) (h : F_X11_sum N x1 σ = some q) (hG : Gr σ) : Cal xs L 110 [.ref 0, .int x1] σ (wI q.1) q.2 ∧ Gr q.2 := by
  have h : (if (aI σ 0 8) = 0 then J_X11_sum_19 N ((-1)) σ else oB (F_X9_total N 101 x1 σ) fun y2 σ3 => J_X11_sum_19 N y2 σ3) = some q := h
  show Ev xs L 110 0 [.ref 0, .int x1] [] σ (wI q.1) q.2 ∧ Gr q.2
  refine ev_a (fun he => ev_aload rfl rfl he) ?_
  refine ev_a (fun he => ev_getI rfl (gr_ob (n := 9) hG rfl) he) ?_
  refine ev_b (c := (aI σ 0 8) = 0) (fun ht hf => ev_ifeq rfl ht hf) (fun hc1 => ?_) (fun hc1 => ?_)
  · rw [if_pos hc1] at h
    refine ev_a (fun he => ev_push rfl he) ?_
    exact TJ_X11_sum_19 xs L N ((-1)) (.ref 0) (.int x1) σ q h hG
  · rw [if_neg hc1] at h
    refine ev_a (fun he => ev_aload rfl rfl he) ?_
    refine ev_a (fun he => ev_getR rfl (gr_ob (n := 9) hG rfl) (gr_p (a := 0) (k := 2) (b := 101) hG rfl) he) ?_
    refine ev_a (fun he => ev_iload rfl rfl he) ?_
    obtain ⟨y2, σ3, h4, h⟩ := oB_inv h
    obtain ⟨c5, hG6⟩ := T_X9_total xs L N 101 x1 σ (y2, σ3) h4 hG sale_day
    refine ev_a (fun he => ev_callV (as := [.int x1]) rfl (gr_ob (n := 9) hG (sh_Sale0 sale_day)) rfl rfl rfl (Nat.le_of_ble_eq_true rfl) (Nat.le_of_ble_eq_true rfl) c5 he) ?_
    refine ev_a (fun he => ev_goto rfl he) ?_
    exact TJ_X11_sum_19 xs L N y2 (.ref 0) (.int x1) σ3 q h hG6
def J_X11_without_18 (N : Nat) (σ : aSt) : Option (Int32 × aSt) := some ((-1), σ)
set_option maxRecDepth 20000 in
set_option maxHeartbeats 4000000 in
theorem TJ_X11_without_18 (xs : Nat → Int32) (L : Nat) (N : Nat) (d0 : Value) (d1 : Value) (σ : aSt) (q : Int32 × aSt) (h : J_X11_without_18 N  σ = some q) (hG : Gr σ) : Ev xs L 111 18 [d0, d1] [] σ (wI q.1) q.2 ∧ Gr q.2 := by
  have h : (some ((-1), σ)) = some q := h
  refine ev_a (fun he => ev_push rfl he) ?_
  cases h
  exact ⟨ev_retI rfl, hG⟩
def F_X11_without (N : Nat) (x1 : Int32) (σ : aSt) : Option (Int32 × aSt) := if (aI σ 0 8) = 0 then J_X11_without_18 N σ else oB (F_X2_hasBuyer N x1 σ) fun y2 σ3 => if y2 ≠ 0 then oB (F_X9_hold N 147 x1 σ3) fun y8 σ9 => oB (F_X9_takingsOfAll N 147 σ9) fun y13 σ14 => some (y13, σ14) else J_X11_without_18 N σ3
set_option maxRecDepth 20000 in
set_option maxHeartbeats 4000000 in
theorem T_X11_without (xs : Nat → Int32) (L : Nat) (N : Nat) (x1 : Int32) (σ : aSt) (q : Int32 × aSt) (h : F_X11_without N x1 σ = some q) (hG : Gr σ) : Cal xs L 111 [.ref 0, .int x1] σ (wI q.1) q.2 ∧ Gr q.2 := by
  have h : (if (aI σ 0 8) = 0 then J_X11_without_18 N σ else oB (F_X2_hasBuyer N x1 σ) fun y2 σ3 => if y2 ≠ 0 then oB (F_X9_hold N 147 x1 σ3) fun y8 σ9 => oB (F_X9_takingsOfAll N 147 σ9) fun y13 σ14 => some (y13, σ14) else J_X11_without_18 N σ3) = some q := h
  show Ev xs L 111 0 [.ref 0, .int x1] [] σ (wI q.1) q.2 ∧ Gr q.2
  refine ev_a (fun he => ev_aload rfl rfl he) ?_
  refine ev_a (fun he => ev_getI rfl (gr_ob (n := 9) hG rfl) he) ?_
  refine ev_b (c := (aI σ 0 8) = 0) (fun ht hf => ev_ifeq rfl ht hf) (fun hc1 => ?_) (fun hc1 => ?_)
  · rw [if_pos hc1] at h
    exact TJ_X11_without_18 xs L N (.ref 0) (.int x1) σ q h hG
  · rw [if_neg hc1] at h
    refine ev_a (fun he => ev_aload rfl rfl he) ?_
    refine ev_a (fun he => ev_getR rfl (gr_ob (n := 9) hG rfl) (gr_p (a := 0) (k := 1) (b := 11) hG rfl) he) ?_
    refine ev_a (fun he => ev_iload rfl rfl he) ?_
    obtain ⟨y2, σ3, h4, h⟩ := oB_inv h
    obtain ⟨c5, hG6⟩ := T_X2_hasBuyer xs L N x1 σ (y2, σ3) h4 hG
    refine ev_a (fun he => ev_callV (as := [.int x1]) rfl (gr_ob (n := 7) hG rfl) rfl rfl rfl (Nat.le_of_ble_eq_true rfl) (Nat.le_of_ble_eq_true rfl) c5 he) ?_
    refine ev_b (c := y2 ≠ 0) (fun ht hf => ev_ifne rfl ht hf) (fun hc7 => ?_) (fun hc7 => ?_)
    · rw [if_pos hc7] at h
      refine ev_a (fun he => ev_aload rfl rfl he) ?_
      refine ev_a (fun he => ev_getR rfl (gr_ob (n := 9) hG6 rfl) (gr_p (a := 0) (k := 3) (b := 147) hG6 rfl) he) ?_
      refine ev_a (fun he => ev_iload rfl rfl he) ?_
      obtain ⟨y8, σ9, h10, h⟩ := oB_inv h
      obtain ⟨c11, hG12⟩ := T_X9_hold xs L N 147 x1 σ3 (y8, σ9) h10 hG6 sale_trial
      refine ev_a (fun he => ev_callV (as := [.int x1]) rfl (gr_ob (n := 9) hG6 (sh_Sale0 sale_trial)) rfl rfl rfl (Nat.le_of_ble_eq_true rfl) (Nat.le_of_ble_eq_true rfl) c11 he) ?_
      refine ev_a (fun he => ev_aload rfl rfl he) ?_
      refine ev_a (fun he => ev_getR rfl (gr_ob (n := 9) hG12 rfl) (gr_p (a := 0) (k := 3) (b := 147) hG12 rfl) he) ?_
      obtain ⟨y13, σ14, h15, h⟩ := oB_inv h
      obtain ⟨c16, hG17⟩ := T_X9_takingsOfAll xs L N 147 σ9 (y13, σ14) h15 hG12 sale_trial
      refine ev_a (fun he => ev_callV (as := []) rfl (gr_ob (n := 9) hG12 (sh_Sale0 sale_trial)) rfl rfl rfl (Nat.le_of_ble_eq_true rfl) (Nat.le_of_ble_eq_true rfl) c16 he) ?_
      cases h
      exact ⟨ev_retI rfl, hG17⟩
    · rw [if_neg hc7] at h
      exact TJ_X11_without_18 xs L N (.ref 0) (.int x1) σ3 q h hG6
def J_X11_load_19 (N : Nat) (σ : aSt) : Option (Int32 × aSt) := some ((-1), σ)
set_option maxRecDepth 20000 in
set_option maxHeartbeats 4000000 in
theorem TJ_X11_load_19 (xs : Nat → Int32) (L : Nat) (N : Nat) (d0 : Value) (d1 : Value) (d2 : Value) (σ : aSt) (q : Int32 × aSt) (h : J_X11_load_19 N  σ = some q) (hG : Gr σ) : Ev xs L 112 19 [d0, d1, d2] [] σ (wI q.1) q.2 ∧ Gr q.2 := by
  have h : (some ((-1), σ)) = some q := h
  refine ev_a (fun he => ev_push rfl he) ?_
  cases h
  exact ⟨ev_retI rfl, hG⟩
def F_X11_load (N : Nat) (x1 : Int32) (x2 : Int32) (σ : aSt) : Option (Int32 × aSt) := if (aI σ 0 8) = 0 then J_X11_load_19 N σ else if x1 < 0 then J_X11_load_19 N σ else if x1 < (aI σ 0 6) then cO (¬ (x1 < 0 ∨ 6 ≤ x1.toNatClampNeg)) (oB (F_X4_tell N (223 + 2 * x1.toNatClampNeg) x2 σ) fun y5 σ6 => some (y5, σ6)) else J_X11_load_19 N σ
set_option maxRecDepth 20000 in
set_option maxHeartbeats 4000000 in
theorem T_X11_load (xs : Nat → Int32) (L : Nat) (N : Nat) (x1 : Int32) (x2 : Int32) (σ : aSt) (q : Int32 × aSt) (h : F_X11_load N x1 x2 σ = some q) (hG : Gr σ) : Cal xs L 112 [.ref 0, .int x1, .int x2] σ (wI q.1) q.2 ∧ Gr q.2 := by
  have h : (if (aI σ 0 8) = 0 then J_X11_load_19 N σ else if x1 < 0 then J_X11_load_19 N σ else if x1 < (aI σ 0 6) then cO (¬ (x1 < 0 ∨ 6 ≤ x1.toNatClampNeg)) (oB (F_X4_tell N (223 + 2 * x1.toNatClampNeg) x2 σ) fun y5 σ6 => some (y5, σ6)) else J_X11_load_19 N σ) = some q := h
  show Ev xs L 112 0 [.ref 0, .int x1, .int x2] [] σ (wI q.1) q.2 ∧ Gr q.2
  refine ev_a (fun he => ev_aload rfl rfl he) ?_
  refine ev_a (fun he => ev_getI rfl (gr_ob (n := 9) hG rfl) he) ?_
  refine ev_b (c := (aI σ 0 8) = 0) (fun ht hf => ev_ifeq rfl ht hf) (fun hc1 => ?_) (fun hc1 => ?_)
  · rw [if_pos hc1] at h
    exact TJ_X11_load_19 xs L N (.ref 0) (.int x1) (.int x2) σ q h hG
  · rw [if_neg hc1] at h
    refine ev_a (fun he => ev_iload rfl rfl he) ?_
    refine ev_b (c := x1 < 0) (fun ht hf => ev_iflt rfl ht hf) (fun hc2 => ?_) (fun hc2 => ?_)
    · rw [if_pos hc2] at h
      exact TJ_X11_load_19 xs L N (.ref 0) (.int x1) (.int x2) σ q h hG
    · rw [if_neg hc2] at h
      refine ev_a (fun he => ev_iload rfl rfl he) ?_
      refine ev_a (fun he => ev_aload rfl rfl he) ?_
      refine ev_a (fun he => ev_getI rfl (gr_ob (n := 9) hG rfl) he) ?_
      refine ev_b (c := x1 < (aI σ 0 6)) (fun ht hf => ev_clt rfl ht hf) (fun hc3 => ?_) (fun hc3 => ?_)
      · rw [if_pos hc3] at h
        refine ev_a (fun he => ev_aload rfl rfl he) ?_
        refine ev_a (fun he => ev_getR rfl (gr_ob (n := 9) hG rfl) (gr_p (a := 0) (k := 5) (b := 222) hG rfl) he) ?_
        refine ev_a (fun he => ev_iload rfl rfl he) ?_
        obtain ⟨hc4, h⟩ := cO_inv h
        refine ev_a (fun he => ev_aldR rfl (gr_ar hG rfl) (by decide) hc4 (gr_p hG (el_Ly hc4).1) he) ?_
        refine ev_a (fun he => ev_iload rfl rfl he) ?_
        obtain ⟨y5, σ6, h7, h⟩ := oB_inv h
        obtain ⟨c8, hG9⟩ := T_X4_tell xs L N (223 + 2 * x1.toNatClampNeg) x2 σ (y5, σ6) h7 hG (el_Ly hc4).2
        refine ev_a (fun he => ev_callV (as := [.int x2]) rfl (gr_ob (n := 6) hG (sh_Ly0 (el_Ly hc4).2)) rfl rfl rfl (Nat.le_of_ble_eq_true rfl) (Nat.le_of_ble_eq_true rfl) c8 he) ?_
        cases h
        exact ⟨ev_retI rfl, hG9⟩
      · rw [if_neg hc3] at h
        exact TJ_X11_load_19 xs L N (.ref 0) (.int x1) (.int x2) σ q h hG
def J_X11_stays_27 (N : Nat) (s0 : Int32) (σ : aSt) : Option (Int32 × aSt) := some (s0, σ)
set_option maxRecDepth 20000 in
set_option maxHeartbeats 4000000 in
theorem TJ_X11_stays_27 (xs : Nat → Int32) (L : Nat) (N : Nat) (s0 : Int32) (d0 : Value) (d1 : Value) (σ : aSt) (q : Int32 × aSt) (h : J_X11_stays_27 N s0 σ = some q) (hG : Gr σ) : Ev xs L 113 27 [d0, d1] [.int s0] σ (wI q.1) q.2 ∧ Gr q.2 := by
  have h : (some (s0, σ)) = some q := h
  cases h
  exact ⟨ev_retI rfl, hG⟩
def J_X11_stays_26 (N : Nat) (σ : aSt) : Option (Int32 × aSt) := J_X11_stays_27 N ((-1)) σ
set_option maxRecDepth 20000 in
set_option maxHeartbeats 4000000 in
theorem TJ_X11_stays_26 (xs : Nat → Int32) (L : Nat) (N : Nat) (d0 : Value) (d1 : Value) (σ : aSt) (q : Int32 × aSt) (h : J_X11_stays_26 N  σ = some q) (hG : Gr σ) : Ev xs L 113 26 [d0, d1] [] σ (wI q.1) q.2 ∧ Gr q.2 := by
  have h : (J_X11_stays_27 N ((-1)) σ) = some q := h
  refine ev_a (fun he => ev_push rfl he) ?_
  exact TJ_X11_stays_27 xs L N ((-1)) (d0) (d1) σ q h hG
def F_X11_stays (N : Nat) (x1 : Int32) (σ : aSt) : Option (Int32 × aSt) := if (aI σ 0 8) = 0 then J_X11_stays_26 N σ else oB (F_X11_isBelow N x1 4 σ) fun y2 σ3 => if y2 = 0 then J_X11_stays_26 N σ3 else oB (F_X9_boxesLeftFor N 101 x1 σ3) fun y8 σ9 => J_X11_stays_27 N y8 σ9
set_option maxRecDepth 20000 in
set_option maxHeartbeats 4000000 in
theorem T_X11_stays (xs : Nat → Int32) (L : Nat) (N : Nat) (x1 : Int32) (σ : aSt) (q : Int32 × aSt) (h : F_X11_stays N x1 σ = some q) (hG : Gr σ) : Cal xs L 113 [.ref 0, .int x1] σ (wI q.1) q.2 ∧ Gr q.2 := by
  have h : (if (aI σ 0 8) = 0 then J_X11_stays_26 N σ else oB (F_X11_isBelow N x1 4 σ) fun y2 σ3 => if y2 = 0 then J_X11_stays_26 N σ3 else oB (F_X9_boxesLeftFor N 101 x1 σ3) fun y8 σ9 => J_X11_stays_27 N y8 σ9) = some q := h
  show Ev xs L 113 0 [.ref 0, .int x1] [] σ (wI q.1) q.2 ∧ Gr q.2
  refine ev_a (fun he => ev_aload rfl rfl he) ?_
  refine ev_a (fun he => ev_getI rfl (gr_ob (n := 9) hG rfl) he) ?_
  refine ev_b (c := (aI σ 0 8) = 0) (fun ht hf => ev_ifeq rfl ht hf) (fun hc1 => ?_) (fun hc1 => ?_)
  · rw [if_pos hc1] at h
    exact TJ_X11_stays_26 xs L N (.ref 0) (.int x1) σ q h hG
  · rw [if_neg hc1] at h
    refine ev_a (fun he => ev_iload rfl rfl he) ?_
    refine ev_a (fun he => ev_push rfl he) ?_
    obtain ⟨y2, σ3, h4, h⟩ := oB_inv h
    obtain ⟨c5, hG6⟩ := T_X11_isBelow xs L N x1 4 σ (y2, σ3) h4 hG
    refine ev_a (fun he => ev_callS (as := [.int x1, .int 4]) rfl rfl rfl rfl (Nat.le_of_ble_eq_true rfl) (Nat.le_of_ble_eq_true rfl) c5 he) ?_
    refine ev_b (c := y2 = 0) (fun ht hf => ev_ifeq rfl ht hf) (fun hc7 => ?_) (fun hc7 => ?_)
    · rw [if_pos hc7] at h
      exact TJ_X11_stays_26 xs L N (.ref 0) (.int x1) σ3 q h hG6
    · rw [if_neg hc7] at h
      refine ev_a (fun he => ev_aload rfl rfl he) ?_
      refine ev_a (fun he => ev_getR rfl (gr_ob (n := 9) hG6 rfl) (gr_p (a := 0) (k := 2) (b := 101) hG6 rfl) he) ?_
      refine ev_a (fun he => ev_iload rfl rfl he) ?_
      obtain ⟨y8, σ9, h10, h⟩ := oB_inv h
      obtain ⟨c11, hG12⟩ := T_X9_boxesLeftFor xs L N 101 x1 σ3 (y8, σ9) h10 hG6 sale_day
      refine ev_a (fun he => ev_callV (as := [.int x1]) rfl (gr_ob (n := 9) hG6 (sh_Sale0 sale_day)) rfl rfl rfl (Nat.le_of_ble_eq_true rfl) (Nat.le_of_ble_eq_true rfl) c11 he) ?_
      refine ev_a (fun he => ev_goto rfl he) ?_
      exact TJ_X11_stays_27 xs L N y8 (.ref 0) (.int x1) σ9 q h hG12
def J_X11_count_82 (N : Nat) (s0 : Int32) (σ : aSt) : Option (Int32 × aSt) := some (s0, σ)
set_option maxRecDepth 20000 in
set_option maxHeartbeats 4000000 in
theorem TJ_X11_count_82 (xs : Nat → Int32) (L : Nat) (N : Nat) (s0 : Int32) (d0 : Value) (d1 : Value) (σ : aSt) (q : Int32 × aSt) (h : J_X11_count_82 N s0 σ = some q) (hG : Gr σ) : Ev xs L 114 82 [d0, d1] [.int s0] σ (wI q.1) q.2 ∧ Gr q.2 := by
  have h : (some (s0, σ)) = some q := h
  cases h
  exact ⟨ev_retI rfl, hG⟩
def F_X11_count (N : Nat) (x1 : Int32) (σ : aSt) : Option (Int32 × aSt) := if x1 = 0 then (some (aI σ 11 1, σ)) else if x1 = 1 then (some (aI σ 11 3, σ)) else if x1 = 2 then (some (aI σ 0 6, σ)) else if x1 = 3 then (some (aI σ 0 7, σ)) else if x1 = 4 then (if (aI σ 0 8) = 0 then J_X11_count_82 N 0 σ else J_X11_count_82 N 1 σ) else if x1 = 5 then (some (aI σ (aTxt σ 11 5) 0, σ)) else if x1 = 6 then (some (aI σ 1 0, σ)) else some ((-1), σ)
set_option maxRecDepth 20000 in
set_option maxHeartbeats 4000000 in
theorem T_X11_count (xs : Nat → Int32) (L : Nat) (N : Nat) (x1 : Int32) (σ : aSt) (q : Int32 × aSt) (h : F_X11_count N x1 σ = some q) (hG : Gr σ) : Cal xs L 114 [.ref 0, .int x1] σ (wI q.1) q.2 ∧ Gr q.2 := by
  have h : (if x1 = 0 then (some (aI σ 11 1, σ)) else if x1 = 1 then (some (aI σ 11 3, σ)) else if x1 = 2 then (some (aI σ 0 6, σ)) else if x1 = 3 then (some (aI σ 0 7, σ)) else if x1 = 4 then (if (aI σ 0 8) = 0 then J_X11_count_82 N 0 σ else J_X11_count_82 N 1 σ) else if x1 = 5 then (some (aI σ (aTxt σ 11 5) 0, σ)) else if x1 = 6 then (some (aI σ 1 0, σ)) else some ((-1), σ)) = some q := h
  show Ev xs L 114 0 [.ref 0, .int x1] [] σ (wI q.1) q.2 ∧ Gr q.2
  refine ev_a (fun he => ev_iload rfl rfl he) ?_
  by_cases hz1 : x1 = 0
  · rw [if_pos hz1] at h
    refine ev_a (fun he => ev_tab (t := 44) rfl (by rw [hz1]; decide) he) ?_
    refine ev_a (fun he => ev_aload rfl rfl he) ?_
    refine ev_a (fun he => ev_getR rfl (gr_ob (n := 9) hG rfl) (gr_p (a := 0) (k := 1) (b := 11) hG rfl) he) ?_
    refine ev_a (fun he => ev_getI rfl (gr_ob (n := 7) hG rfl) he) ?_
    cases h
    exact ⟨ev_retI rfl, hG⟩
  · rw [if_neg hz1] at h
    by_cases hz2 : x1 = 1
    · rw [if_pos hz2] at h
      refine ev_a (fun he => ev_tab (t := 52) rfl (by rw [hz2]; decide) he) ?_
      refine ev_a (fun he => ev_aload rfl rfl he) ?_
      refine ev_a (fun he => ev_getR rfl (gr_ob (n := 9) hG rfl) (gr_p (a := 0) (k := 1) (b := 11) hG rfl) he) ?_
      refine ev_a (fun he => ev_getI rfl (gr_ob (n := 7) hG rfl) he) ?_
      cases h
      exact ⟨ev_retI rfl, hG⟩
    · rw [if_neg hz2] at h
      by_cases hz3 : x1 = 2
      · rw [if_pos hz3] at h
        refine ev_a (fun he => ev_tab (t := 60) rfl (by rw [hz3]; decide) he) ?_
        refine ev_a (fun he => ev_aload rfl rfl he) ?_
        refine ev_a (fun he => ev_getI rfl (gr_ob (n := 9) hG rfl) he) ?_
        cases h
        exact ⟨ev_retI rfl, hG⟩
      · rw [if_neg hz3] at h
        by_cases hz4 : x1 = 3
        · rw [if_pos hz4] at h
          refine ev_a (fun he => ev_tab (t := 65) rfl (by rw [hz4]; decide) he) ?_
          refine ev_a (fun he => ev_aload rfl rfl he) ?_
          refine ev_a (fun he => ev_getI rfl (gr_ob (n := 9) hG rfl) he) ?_
          cases h
          exact ⟨ev_retI rfl, hG⟩
        · rw [if_neg hz4] at h
          by_cases hz5 : x1 = 4
          · rw [if_pos hz5] at h
            refine ev_a (fun he => ev_tab (t := 70) rfl (by rw [hz5]; decide) he) ?_
            refine ev_a (fun he => ev_aload rfl rfl he) ?_
            refine ev_a (fun he => ev_getI rfl (gr_ob (n := 9) hG rfl) he) ?_
            refine ev_b (c := (aI σ 0 8) = 0) (fun ht hf => ev_ifeq rfl ht hf) (fun hc6 => ?_) (fun hc6 => ?_)
            · rw [if_pos hc6] at h
              refine ev_a (fun he => ev_push rfl he) ?_
              exact TJ_X11_count_82 xs L N 0 (.ref 0) (.int x1) σ q h hG
            · rw [if_neg hc6] at h
              refine ev_a (fun he => ev_push rfl he) ?_
              refine ev_a (fun he => ev_goto rfl he) ?_
              exact TJ_X11_count_82 xs L N 1 (.ref 0) (.int x1) σ q h hG
          · rw [if_neg hz5] at h
            by_cases hz7 : x1 = 5
            · rw [if_pos hz7] at h
              refine ev_a (fun he => ev_tab (t := 83) rfl (by rw [hz7]; decide) he) ?_
              refine ev_a (fun he => ev_aload rfl rfl he) ?_
              refine ev_a (fun he => ev_getR rfl (gr_ob (n := 9) hG rfl) (gr_p (a := 0) (k := 1) (b := 11) hG rfl) he) ?_
              refine ev_a (fun he => ev_getR rfl (gr_ob (n := 7) hG rfl) (gr_tx (a := 11) (k := 5) hG (by decide)).1 he) ?_
              refine ev_a (fun he => ev_getI rfl (gr_ob (n := 8) hG (sh_Tx0 (gr_tx (a := 11) (k := 5) hG (by decide)).2)) he) ?_
              cases h
              exact ⟨ev_retI rfl, hG⟩
            · rw [if_neg hz7] at h
              by_cases hz8 : x1 = 6
              · rw [if_pos hz8] at h
                refine ev_a (fun he => ev_tab (t := 94) rfl (by rw [hz8]; decide) he) ?_
                refine ev_a (fun he => ev_aload rfl rfl he) ?_
                refine ev_a (fun he => ev_getR rfl (gr_ob (n := 9) hG rfl) (gr_p (a := 0) (k := 0) (b := 1) hG rfl) he) ?_
                refine ev_a (fun he => ev_getI rfl (gr_ob (n := 12) hG rfl) he) ?_
                cases h
                exact ⟨ev_retI rfl, hG⟩
              · rw [if_neg hz8] at h
                refine ev_a (fun he => ev_tab (t := 102) rfl (aSwt_d [0, 1, 2, 3, 4, 5, 6] rfl (by decide) (List.forall_mem_cons.mpr ⟨hz1, (List.forall_mem_cons.mpr ⟨hz2, (List.forall_mem_cons.mpr ⟨hz3, (List.forall_mem_cons.mpr ⟨hz4, (List.forall_mem_cons.mpr ⟨hz5, (List.forall_mem_cons.mpr ⟨hz7, (List.forall_mem_cons.mpr ⟨hz8, (fun _ hm => absurd hm List.not_mem_nil)⟩)⟩)⟩)⟩)⟩)⟩)⟩)) he) ?_
                refine ev_a (fun he => ev_push rfl he) ?_
                cases h
                exact ⟨ev_retI rfl, hG⟩
def H_X12_put_3 (N : Nat) : Nat → Int32 → Int32 → aSt → Option (Unit × aSt)
  | 0, _, _, _ => none
  | n + 1, x1, x2, σ => if x2 < 0 then some ((), σ) else cO (¬ ((aI σ 235 2) < 0 ∨ 2000 ≤ (aI σ 235 2).toNatClampNeg)) (lt (aWI σ 236 (aI σ 235 2).toNatClampNeg (vp_nar .byte ((x1 >>> (x2 &&& 31)).toInt8.toInt32))) fun σ3 => lt (aWI σ3 235 2 ((aI σ3 235 2) + 1)) fun σ6 => (H_X12_put_3 N n) x1 (x2 + (-8)) σ6)
set_option maxRecDepth 20000 in
set_option maxHeartbeats 4000000 in
theorem TH_X12_put_3 (xs : Nat → Int32) (L : Nat) (N : Nat) : ∀ (n : Nat) (x1 : Int32) (x2 : Int32) (σ : aSt) (q : Unit × aSt), H_X12_put_3 N n x1 x2 σ = some q → Gr σ → Ev xs L 119 3 [.ref 235, .int x1, .int x2] [] σ (wV q.1) q.2 ∧ Gr q.2 := by
  intro n
  induction n with
  | zero =>
    intro x1 x2 σ q h hG
    exact absurd (show (none : Option (Unit × aSt)) = some q from h) (by simp)
  | succ n ih =>
    intro x1 x2 σ q h hG
    have hk3 : ∀ (x1 : Int32) (x2 : Int32) (σ : aSt) (q : Unit × aSt), H_X12_put_3 N n x1 x2 σ = some q → Gr σ → Ev xs L 119 3 [.ref 235, .int x1, .int x2] [] σ (wV q.1) q.2 ∧ Gr q.2 := ih
    have h : (if x2 < 0 then some ((), σ) else cO (¬ ((aI σ 235 2) < 0 ∨ 2000 ≤ (aI σ 235 2).toNatClampNeg)) (lt (aWI σ 236 (aI σ 235 2).toNatClampNeg (vp_nar .byte ((x1 >>> (x2 &&& 31)).toInt8.toInt32))) fun σ3 => lt (aWI σ3 235 2 ((aI σ3 235 2) + 1)) fun σ6 => (H_X12_put_3 N n) x1 (x2 + (-8)) σ6)) = some q := h
    refine ev_a (fun he => ev_iload rfl rfl he) ?_
    refine ev_b (c := x2 < 0) (fun ht hf => ev_iflt rfl ht hf) (fun hc1 => ?_) (fun hc1 => ?_)
    · rw [if_pos hc1] at h
      cases h
      exact ⟨ev_retV rfl, hG⟩
    · rw [if_neg hc1] at h
      refine ev_a (fun he => ev_aload rfl rfl he) ?_
      refine ev_a (fun he => ev_getR rfl (gr_ob (n := 80) hG rfl) (gr_p (a := 235) (k := 1) (b := 236) hG rfl) he) ?_
      refine ev_a (fun he => ev_aload rfl rfl he) ?_
      refine ev_a (fun he => ev_getI rfl (gr_ob (n := 80) hG rfl) he) ?_
      refine ev_a (fun he => ev_iload rfl rfl he) ?_
      refine ev_a (fun he => ev_iload rfl rfl he) ?_
      refine ev_a (fun he => ev_bin (z := x1 >>> (x2 &&& 31)) rfl rfl he) ?_
      refine ev_a (fun he => ev_un (z := (x1 >>> (x2 &&& 31)).toInt8.toInt32) rfl rfl he) ?_
      obtain ⟨hc2, h⟩ := cO_inv h
      obtain ⟨σ3, e4, h⟩ := lt_inv h
      have hG5 : Gr σ3 := gr_wi e4 hG
      refine ev_a (fun he => ev_astI (k := (aI σ 235 2).toNatClampNeg) rfl (gr_ar hG rfl) hc2 rfl rfl e4 he) ?_
      refine ev_a (fun he => ev_aload rfl rfl he) ?_
      refine ev_a (fun he => ev_dupR rfl he) ?_
      refine ev_a (fun he => ev_getI rfl (gr_ob (n := 80) hG5 rfl) he) ?_
      refine ev_a (fun he => ev_push rfl he) ?_
      refine ev_a (fun he => ev_bin (z := (aI σ3 235 2) + 1) rfl rfl he) ?_
      obtain ⟨σ6, e7, h⟩ := lt_inv h
      have hG8 : Gr σ6 := gr_wi e7 hG5
      refine ev_a (fun he => ev_putI rfl (gr_ob (n := 80) hG5 rfl) e7 he) ?_
      refine ev_a (fun he => ev_iinc (ls' := [.ref 235, .int x1, .int (x2 + (-8))]) rfl rfl rfl (Nat.le_of_ble_eq_true rfl) rfl he) ?_
      refine ev_a (fun he => ev_goto rfl he) ?_
      exact hk3 x1 (x2 + (-8)) σ6 q h hG8
def F_X12_put (N : Nat) (x1 : Int32) (σ : aSt) : Option (Unit × aSt) := H_X12_put_3 N N x1 24 σ
set_option maxRecDepth 20000 in
set_option maxHeartbeats 4000000 in
theorem T_X12_put (xs : Nat → Int32) (L : Nat) (N : Nat) (x1 : Int32) (σ : aSt) (q : Unit × aSt) (h : F_X12_put N x1 σ = some q) (hG : Gr σ) : Cal xs L 119 [.ref 235, .int x1] σ (wV q.1) q.2 ∧ Gr q.2 := by
  have h : (H_X12_put_3 N N x1 24 σ) = some q := h
  show Ev xs L 119 0 [.ref 235, .int x1, aU] [] σ (wV q.1) q.2 ∧ Gr q.2
  refine ev_a (fun he => ev_push rfl he) ?_
  refine ev_a (fun he => ev_istore (ls' := [.ref 235, .int x1, .int 24]) rfl (Nat.le_of_ble_eq_true rfl) rfl he) ?_
  exact TH_X12_put_3 xs L N N x1 24 σ q h hG
