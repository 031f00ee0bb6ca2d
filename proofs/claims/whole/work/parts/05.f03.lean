def J_X2_limitOf_36 (N : Nat) (σ : aSt) : Option (Int32 × aSt) := some (0, σ)
set_option maxRecDepth 20000 in
set_option maxHeartbeats 4000000 in
theorem TJ_X2_limitOf_36 (xs : Nat → Int32) (L : Nat) (N : Nat) (d0 : Value) (d1 : Value) (d2 : Value) (d3 : Value) (d4 : Value) (d5 : Value) (σ : aSt) (q : Int32 × aSt) (h : J_X2_limitOf_36 N  σ = some q) (hG : Gr σ) : Ev xs L 13 36 [d0, d1, d2, d3, d4, d5] [] σ (wI q.1) q.2 ∧ Gr q.2 := by
  have h : (some (0, σ)) = some q := h
  refine ev_a (fun he => ev_push rfl he) ?_
  cases h
  exact ⟨ev_retI rfl, hG⟩
def F_X2_limitOf (N : Nat) (x1 : Int32) (x2 : Int32) (x3 : Nat) (σ : aSt) : Option (Int32 × aSt) := cO (¬ (x2 < 0 ∨ 24 ≤ x2.toNatClampNeg)) (oB (F_X2_setBuyerVariables N x1 x2 x3 σ) fun y2 σ3 => if (aI σ (23 + x2.toNatClampNeg) 3) < 1 then J_X2_limitOf_36 N σ3 else if (aI σ (23 + x2.toNatClampNeg) 3) ≤ (aI σ3 22 7) then cO (¬ (x1 < 0 ∨ 6 ≤ x1.toNatClampNeg)) (oB (F_X10_valueOrElse N (aTxt σ3 (47 + 9 * x1.toNatClampNeg) 3) 0 0 σ3) fun y11 σ12 => cO (¬ (aI σ (23 + x2.toNatClampNeg) 3) = 0) (oB (F_J9_min_7cf53 N y11 ((aI σ12 x3 0) / (aI σ (23 + x2.toNatClampNeg) 3)) σ12) fun y17 σ18 => some (y17, σ18))) else J_X2_limitOf_36 N σ3)
set_option maxRecDepth 20000 in
set_option maxHeartbeats 4000000 in
theorem T_X2_limitOf (xs : Nat → Int32) (L : Nat) (N : Nat) (x1 : Int32) (x2 : Int32) (x3 : Nat) (σ : aSt) (q : Int32 × aSt) (h : F_X2_limitOf N x1 x2 x3 σ = some q) (hG : Gr σ) (hx3 : isPu x3) : Cal xs L 13 [.ref 11, .int x1, .int x2, .ref x3] σ (wI q.1) q.2 ∧ Gr q.2 := by
  have h : (cO (¬ (x2 < 0 ∨ 24 ≤ x2.toNatClampNeg)) (oB (F_X2_setBuyerVariables N x1 x2 x3 σ) fun y2 σ3 => if (aI σ (23 + x2.toNatClampNeg) 3) < 1 then J_X2_limitOf_36 N σ3 else if (aI σ (23 + x2.toNatClampNeg) 3) ≤ (aI σ3 22 7) then cO (¬ (x1 < 0 ∨ 6 ≤ x1.toNatClampNeg)) (oB (F_X10_valueOrElse N (aTxt σ3 (47 + 9 * x1.toNatClampNeg) 3) 0 0 σ3) fun y11 σ12 => cO (¬ (aI σ (23 + x2.toNatClampNeg) 3) = 0) (oB (F_J9_min_7cf53 N y11 ((aI σ12 x3 0) / (aI σ (23 + x2.toNatClampNeg) 3)) σ12) fun y17 σ18 => some (y17, σ18))) else J_X2_limitOf_36 N σ3)) = some q := h
  show Ev xs L 13 0 [.ref 11, .int x1, .int x2, .ref x3, aU, aU] [] σ (wI q.1) q.2 ∧ Gr q.2
  refine ev_a (fun he => ev_aload rfl rfl he) ?_
  refine ev_a (fun he => ev_getR rfl (gr_ob (n := 7) hG rfl) (gr_p (a := 11) (k := 0) (b := 12) hG rfl) he) ?_
  refine ev_a (fun he => ev_iload rfl rfl he) ?_
  obtain ⟨hc1, h⟩ := cO_inv h
  refine ev_a (fun he => ev_aldR rfl (gr_ar hG rfl) (by decide) hc1 (gr_p hG (el_Lo hc1).1) he) ?_
  refine ev_a (fun he => ev_getI rfl (gr_ob (n := 5) hG (sh_Lo0 (el_Lo hc1).2)) he) ?_
  refine ev_a (fun he => ev_istore (ls' := [.ref 11, .int x1, .int x2, .ref x3, .int (aI σ (23 + x2.toNatClampNeg) 3), aU]) rfl (Nat.le_of_ble_eq_true rfl) rfl he) ?_
  refine ev_a (fun he => ev_aload rfl rfl he) ?_
  refine ev_a (fun he => ev_iload rfl rfl he) ?_
  refine ev_a (fun he => ev_iload rfl rfl he) ?_
  refine ev_a (fun he => ev_aload rfl rfl he) ?_
  obtain ⟨y2, σ3, h4, h⟩ := oB_inv h
  obtain ⟨c5, hG6⟩ := T_X2_setBuyerVariables xs L N x1 x2 x3 σ (y2, σ3) h4 hG hx3
  refine ev_a (fun he => ev_callV (as := [.int x1, .int x2, .ref x3]) rfl (gr_ob (n := 7) hG rfl) rfl rfl rfl (Nat.le_of_ble_eq_true rfl) (Nat.le_of_ble_eq_true rfl) c5 he) ?_
  refine ev_a (fun he => ev_iload rfl rfl he) ?_
  refine ev_a (fun he => ev_push rfl he) ?_
  refine ev_b (c := (aI σ (23 + x2.toNatClampNeg) 3) < 1) (fun ht hf => ev_clt rfl ht hf) (fun hc7 => ?_) (fun hc7 => ?_)
  · rw [if_pos hc7] at h
    exact TJ_X2_limitOf_36 xs L N (.ref 11) (.int x1) (.int x2) (.ref x3) (.int (aI σ (23 + x2.toNatClampNeg) 3)) (aU) σ3 q h hG6
  · rw [if_neg hc7] at h
    refine ev_a (fun he => ev_aload rfl rfl he) ?_
    refine ev_a (fun he => ev_getR rfl (gr_ob (n := 7) hG6 rfl) (gr_p (a := 11) (k := 6) (b := 22) hG6 rfl) he) ?_
    refine ev_a (fun he => ev_push rfl he) ?_
    refine ev_a (fun he => ev_aldI (k := 7) rfl (gr_ar hG6 rfl) (by decide) (by decide) he) ?_
    refine ev_a (fun he => ev_iload rfl rfl he) ?_
    refine ev_b (c := (aI σ (23 + x2.toNatClampNeg) 3) ≤ (aI σ3 22 7)) (fun ht hf => ev_cge rfl ht hf) (fun hc9 => ?_) (fun hc9 => ?_)
    · rw [if_pos hc9] at h
      refine ev_a (fun he => ev_aload rfl rfl he) ?_
      refine ev_a (fun he => ev_getR rfl (gr_ob (n := 7) hG6 rfl) (gr_p (a := 11) (k := 2) (b := 13) hG6 rfl) he) ?_
      refine ev_a (fun he => ev_iload rfl rfl he) ?_
      obtain ⟨hc10, h⟩ := cO_inv h
      refine ev_a (fun he => ev_aldR rfl (gr_ar hG6 rfl) (by decide) hc10 (gr_p hG6 (el_Bu hc10).1) he) ?_
      refine ev_a (fun he => ev_getR rfl (gr_ob (n := 4) hG6 (sh_Bu0 (el_Bu hc10).2)) (gr_tx hG6 (tx_Bu (el_Bu hc10).2)).1 he) ?_
      refine ev_a (fun he => ev_push rfl he) ?_
      refine ev_a (fun he => ev_aload rfl rfl he) ?_
      refine ev_a (fun he => ev_getR rfl (gr_ob (n := 7) hG6 rfl) (gr_p (a := 11) (k := 6) (b := 22) hG6 rfl) he) ?_
      refine ev_a (fun he => ev_push rfl he) ?_
      obtain ⟨y11, σ12, h13, h⟩ := oB_inv h
      obtain ⟨c14, hG15⟩ := T_X10_valueOrElse xs L N (aTxt σ3 (47 + 9 * x1.toNatClampNeg) 3) 0 0 σ3 (y11, σ12) h13 hG6 (gr_tx hG6 (tx_Bu (el_Bu hc10).2)).2
      refine ev_a (fun he => ev_callV (as := [.int 0, .ref 22, .int 0]) rfl (gr_ob (n := 8) hG6 (sh_Tx0 (gr_tx hG6 (tx_Bu (el_Bu hc10).2)).2)) rfl rfl rfl (Nat.le_of_ble_eq_true rfl) (Nat.le_of_ble_eq_true rfl) c14 he) ?_
      refine ev_a (fun he => ev_istore (ls' := [.ref 11, .int x1, .int x2, .ref x3, .int (aI σ (23 + x2.toNatClampNeg) 3), .int y11]) rfl (Nat.le_of_ble_eq_true rfl) rfl he) ?_
      refine ev_a (fun he => ev_iload rfl rfl he) ?_
      refine ev_a (fun he => ev_aload rfl rfl he) ?_
      refine ev_a (fun he => ev_getI rfl (gr_ob (n := 5) hG15 (sh_Pu0 hx3)) he) ?_
      refine ev_a (fun he => ev_iload rfl rfl he) ?_
      obtain ⟨hc16, h⟩ := cO_inv h
      refine ev_a (fun he => ev_div rfl hc16 he) ?_
      obtain ⟨y17, σ18, h19, h⟩ := oB_inv h
      obtain ⟨c20, hG21⟩ := T_J9_min_7cf53 xs L N y11 ((aI σ12 x3 0) / (aI σ (23 + x2.toNatClampNeg) 3)) σ12 (y17, σ18) h19 hG15
      refine ev_a (fun he => ev_callS (as := [.int y11, .int ((aI σ12 x3 0) / (aI σ (23 + x2.toNatClampNeg) 3))]) rfl rfl rfl rfl (Nat.le_of_ble_eq_true rfl) (Nat.le_of_ble_eq_true rfl) c20 he) ?_
      cases h
      exact ⟨ev_retI rfl, hG21⟩
    · rw [if_neg hc9] at h
      exact TJ_X2_limitOf_36 xs L N (.ref 11) (.int x1) (.int x2) (.ref x3) (.int (aI σ (23 + x2.toNatClampNeg) 3)) (aU) σ3 q h hG6
def F_X2_bidRuleOf (N : Nat) (x1 : Int32) (x2 : Int32) (x3 : Nat) (σ : aSt) : Option (Int32 × aSt) := oB (F_X2_setBuyerVariables N x1 x2 x3 σ) fun y1 σ2 => cO (¬ (x1 < 0 ∨ 6 ≤ x1.toNatClampNeg)) (oB (F_X10_firstThatHolds N (aTxt σ2 (47 + 9 * x1.toNatClampNeg) 3) 0 σ2) fun y7 σ8 => some (y7, σ8))
set_option maxRecDepth 20000 in
set_option maxHeartbeats 4000000 in
theorem T_X2_bidRuleOf (xs : Nat → Int32) (L : Nat) (N : Nat) (x1 : Int32) (x2 : Int32) (x3 : Nat) (σ : aSt) (q : Int32 × aSt) (h : F_X2_bidRuleOf N x1 x2 x3 σ = some q) (hG : Gr σ) (hx3 : isPu x3) : Cal xs L 14 [.ref 11, .int x1, .int x2, .ref x3] σ (wI q.1) q.2 ∧ Gr q.2 := by
  have h : (oB (F_X2_setBuyerVariables N x1 x2 x3 σ) fun y1 σ2 => cO (¬ (x1 < 0 ∨ 6 ≤ x1.toNatClampNeg)) (oB (F_X10_firstThatHolds N (aTxt σ2 (47 + 9 * x1.toNatClampNeg) 3) 0 σ2) fun y7 σ8 => some (y7, σ8))) = some q := h
  show Ev xs L 14 0 [.ref 11, .int x1, .int x2, .ref x3] [] σ (wI q.1) q.2 ∧ Gr q.2
  refine ev_a (fun he => ev_aload rfl rfl he) ?_
  refine ev_a (fun he => ev_iload rfl rfl he) ?_
  refine ev_a (fun he => ev_iload rfl rfl he) ?_
  refine ev_a (fun he => ev_aload rfl rfl he) ?_
  obtain ⟨y1, σ2, h3, h⟩ := oB_inv h
  obtain ⟨c4, hG5⟩ := T_X2_setBuyerVariables xs L N x1 x2 x3 σ (y1, σ2) h3 hG hx3
  refine ev_a (fun he => ev_callV (as := [.int x1, .int x2, .ref x3]) rfl (gr_ob (n := 7) hG rfl) rfl rfl rfl (Nat.le_of_ble_eq_true rfl) (Nat.le_of_ble_eq_true rfl) c4 he) ?_
  refine ev_a (fun he => ev_aload rfl rfl he) ?_
  refine ev_a (fun he => ev_getR rfl (gr_ob (n := 7) hG5 rfl) (gr_p (a := 11) (k := 2) (b := 13) hG5 rfl) he) ?_
  refine ev_a (fun he => ev_iload rfl rfl he) ?_
  obtain ⟨hc6, h⟩ := cO_inv h
  refine ev_a (fun he => ev_aldR rfl (gr_ar hG5 rfl) (by decide) hc6 (gr_p hG5 (el_Bu hc6).1) he) ?_
  refine ev_a (fun he => ev_getR rfl (gr_ob (n := 4) hG5 (sh_Bu0 (el_Bu hc6).2)) (gr_tx hG5 (tx_Bu (el_Bu hc6).2)).1 he) ?_
  refine ev_a (fun he => ev_push rfl he) ?_
  refine ev_a (fun he => ev_aload rfl rfl he) ?_
  refine ev_a (fun he => ev_getR rfl (gr_ob (n := 7) hG5 rfl) (gr_p (a := 11) (k := 6) (b := 22) hG5 rfl) he) ?_
  obtain ⟨y7, σ8, h9, h⟩ := oB_inv h
  obtain ⟨c10, hG11⟩ := T_X10_firstThatHolds xs L N (aTxt σ2 (47 + 9 * x1.toNatClampNeg) 3) 0 σ2 (y7, σ8) h9 hG5 (gr_tx hG5 (tx_Bu (el_Bu hc6).2)).2
  refine ev_a (fun he => ev_callV (as := [.int 0, .ref 22]) rfl (gr_ob (n := 8) hG5 (sh_Tx0 (gr_tx hG5 (tx_Bu (el_Bu hc6).2)).2)) rfl rfl rfl (Nat.le_of_ble_eq_true rfl) (Nat.le_of_ble_eq_true rfl) c10 he) ?_
  cases h
  exact ⟨ev_retI rfl, hG11⟩
def J_X9_isSoldTo_42 (N : Nat) (s0 : Int32) (σ : aSt) : Option (Int32 × aSt) := cO (vp_nar .boolean s0 = s0) (some (s0, σ))
set_option maxRecDepth 20000 in
set_option maxHeartbeats 4000000 in
theorem TJ_X9_isSoldTo_42 (xs : Nat → Int32) (L : Nat) (N : Nat) (s0 : Int32) (d0 : Value) (d1 : Value) (d2 : Value) (d3 : Value) (σ : aSt) (q : Int32 × aSt) (h : J_X9_isSoldTo_42 N s0 σ = some q) (hG : Gr σ) : Ev xs L 78 42 [d0, d1, d2, d3] [.int s0] σ (wI q.1) q.2 ∧ Gr q.2 := by
  have h : (cO (vp_nar .boolean s0 = s0) (some (s0, σ))) = some q := h
  obtain ⟨hc1, h⟩ := cO_inv h
  cases h
  exact ⟨ev_retZ rfl hc1, hG⟩
def J_X9_isSoldTo_41 (N : Nat) (σ : aSt) : Option (Int32 × aSt) := J_X9_isSoldTo_42 N 0 σ
set_option maxRecDepth 20000 in
set_option maxHeartbeats 4000000 in
theorem TJ_X9_isSoldTo_41 (xs : Nat → Int32) (L : Nat) (N : Nat) (d0 : Value) (d1 : Value) (d2 : Value) (d3 : Value) (σ : aSt) (q : Int32 × aSt) (h : J_X9_isSoldTo_41 N  σ = some q) (hG : Gr σ) : Ev xs L 78 41 [d0, d1, d2, d3] [] σ (wI q.1) q.2 ∧ Gr q.2 := by
  have h : (J_X9_isSoldTo_42 N 0 σ) = some q := h
  refine ev_a (fun he => ev_push rfl he) ?_
  exact TJ_X9_isSoldTo_42 xs L N 0 (d0) (d1) (d2) (d3) σ q h hG
def F_X9_isSoldTo (N : Nat) (x0 : Nat) (x1 : Int32) (x2 : Int32) (σ : aSt) : Option (Int32 × aSt) := cO (¬ (x2 < 0 ∨ 24 ≤ x2.toNatClampNeg)) (oB (F_X2_hasBuyer N (aI σ (x0 + 4 + x2.toNatClampNeg) 0) σ) fun y3 σ4 => if y3 = 0 then J_X9_isSoldTo_41 N σ4 else cO (¬ ((aI σ (x0 + 4 + x2.toNatClampNeg) 0) < 0 ∨ 6 ≤ (aI σ (x0 + 4 + x2.toNatClampNeg) 0).toNatClampNeg)) (if (aI σ4 (47 + 9 * (aI σ (x0 + 4 + x2.toNatClampNeg) 0).toNatClampNeg) 0) ≠ x1 then J_X9_isSoldTo_41 N σ4 else J_X9_isSoldTo_42 N 1 σ4))
set_option maxRecDepth 20000 in
set_option maxHeartbeats 4000000 in
theorem T_X9_isSoldTo (xs : Nat → Int32) (L : Nat) (N : Nat) (x0 : Nat) (x1 : Int32) (x2 : Int32) (σ : aSt) (q : Int32 × aSt) (h : F_X9_isSoldTo N x0 x1 x2 σ = some q) (hG : Gr σ) (hx0 : isSale x0) : Cal xs L 78 [.ref x0, .int x1, .int x2] σ (wI q.1) q.2 ∧ Gr q.2 := by
  have h : (cO (¬ (x2 < 0 ∨ 24 ≤ x2.toNatClampNeg)) (oB (F_X2_hasBuyer N (aI σ (x0 + 4 + x2.toNatClampNeg) 0) σ) fun y3 σ4 => if y3 = 0 then J_X9_isSoldTo_41 N σ4 else cO (¬ ((aI σ (x0 + 4 + x2.toNatClampNeg) 0) < 0 ∨ 6 ≤ (aI σ (x0 + 4 + x2.toNatClampNeg) 0).toNatClampNeg)) (if (aI σ4 (47 + 9 * (aI σ (x0 + 4 + x2.toNatClampNeg) 0).toNatClampNeg) 0) ≠ x1 then J_X9_isSoldTo_41 N σ4 else J_X9_isSoldTo_42 N 1 σ4))) = some q := h
  show Ev xs L 78 0 [.ref x0, .int x1, .int x2, aU] [] σ (wI q.1) q.2 ∧ Gr q.2
  refine ev_a (fun he => ev_aload rfl rfl he) ?_
  refine ev_a (fun he => ev_getR rfl (gr_ob (n := 9) hG (sh_Sale0 hx0)) (gr_p hG (gf_Sale1 hx0)) he) ?_
  refine ev_a (fun he => ev_iload rfl rfl he) ?_
  obtain ⟨hc2, h⟩ := cO_inv h
  refine ev_a (fun he => ev_aldR rfl (gr_ar hG (sh_Sale1 hx0)) (by decide) hc2 (gr_p hG (el_Ou hx0 hc2).1) he) ?_
  refine ev_a (fun he => ev_getI rfl (gr_ob (n := 8) hG (sh_Ou0 (el_Ou hx0 hc2).2)) he) ?_
  refine ev_a (fun he => ev_istore (ls' := [.ref x0, .int x1, .int x2, .int (aI σ (x0 + 4 + x2.toNatClampNeg) 0)]) rfl (Nat.le_of_ble_eq_true rfl) rfl he) ?_
  refine ev_a (fun he => ev_aload rfl rfl he) ?_
  refine ev_a (fun he => ev_getR rfl (gr_ob (n := 9) hG (sh_Sale0 hx0)) (gr_p hG (gf_Sale0 hx0)) he) ?_
  refine ev_a (fun he => ev_iload rfl rfl he) ?_
  obtain ⟨y3, σ4, h5, h⟩ := oB_inv h
  obtain ⟨c6, hG7⟩ := T_X2_hasBuyer xs L N (aI σ (x0 + 4 + x2.toNatClampNeg) 0) σ (y3, σ4) h5 hG
  refine ev_a (fun he => ev_callV (as := [.int (aI σ (x0 + 4 + x2.toNatClampNeg) 0)]) rfl (gr_ob (n := 7) hG rfl) rfl rfl rfl (Nat.le_of_ble_eq_true rfl) (Nat.le_of_ble_eq_true rfl) c6 he) ?_
  refine ev_b (c := y3 = 0) (fun ht hf => ev_ifeq rfl ht hf) (fun hc8 => ?_) (fun hc8 => ?_)
  · rw [if_pos hc8] at h
    exact TJ_X9_isSoldTo_41 xs L N (.ref x0) (.int x1) (.int x2) (.int (aI σ (x0 + 4 + x2.toNatClampNeg) 0)) σ4 q h hG7
  · rw [if_neg hc8] at h
    refine ev_a (fun he => ev_aload rfl rfl he) ?_
    refine ev_a (fun he => ev_getR rfl (gr_ob (n := 9) hG7 (sh_Sale0 hx0)) (gr_p hG7 (gf_Sale0 hx0)) he) ?_
    refine ev_a (fun he => ev_getR rfl (gr_ob (n := 7) hG7 rfl) (gr_p (a := 11) (k := 2) (b := 13) hG7 rfl) he) ?_
    refine ev_a (fun he => ev_iload rfl rfl he) ?_
    obtain ⟨hc9, h⟩ := cO_inv h
    refine ev_a (fun he => ev_aldR rfl (gr_ar hG7 rfl) (by decide) hc9 (gr_p hG7 (el_Bu hc9).1) he) ?_
    refine ev_a (fun he => ev_getI rfl (gr_ob (n := 4) hG7 (sh_Bu0 (el_Bu hc9).2)) he) ?_
    refine ev_a (fun he => ev_iload rfl rfl he) ?_
    refine ev_b (c := (aI σ4 (47 + 9 * (aI σ (x0 + 4 + x2.toNatClampNeg) 0).toNatClampNeg) 0) ≠ x1) (fun ht hf => ev_cne rfl ht hf) (fun hc10 => ?_) (fun hc10 => ?_)
    · rw [if_pos hc10] at h
      exact TJ_X9_isSoldTo_41 xs L N (.ref x0) (.int x1) (.int x2) (.int (aI σ (x0 + 4 + x2.toNatClampNeg) 0)) σ4 q h hG7
    · rw [if_neg hc10] at h
      refine ev_a (fun he => ev_push rfl he) ?_
      refine ev_a (fun he => ev_goto rfl he) ?_
      exact TJ_X9_isSoldTo_42 xs L N 1 (.ref x0) (.int x1) (.int x2) (.int (aI σ (x0 + 4 + x2.toNatClampNeg) 0)) σ4 q h hG7
def J_X3_gather_119 (N : Nat) (k8 : Nat → Nat → Int32 → aSt → Option (Unit × aSt)) (x1 : Nat) (x3 : Nat) (x4 : Int32) (σ : aSt) : Option (Unit × aSt) := k8 x1 x3 (x4 + 1) σ
set_option maxRecDepth 20000 in
set_option maxHeartbeats 4000000 in
theorem TJ_X3_gather_119 (xs : Nat → Int32) (L : Nat) (N : Nat) (k8 : Nat → Nat → Int32 → aSt → Option (Unit × aSt)) (hk8 : ∀ (x1 : Nat) (x3 : Nat) (x4 : Int32) (d5 : Value) (d6 : Value) (d7 : Value) (σ : aSt) (q : Unit × aSt), k8 x1 x3 x4 σ = some q → Gr σ → isLy x1 → isSale x3 → Ev xs L 20 8 [.ref 193, .ref x1, .ref 11, .ref x3, .int x4, d5, d6, d7] [] σ (wV q.1) q.2 ∧ Gr q.2) (x1 : Nat) (x3 : Nat) (x4 : Int32) (d5 : Value) (d6 : Value) (d7 : Value) (σ : aSt) (q : Unit × aSt) (h : J_X3_gather_119 N k8 x1 x3 x4 σ = some q) (hG : Gr σ) (hx1 : isLy x1) (hx3 : isSale x3) : Ev xs L 20 119 [.ref 193, .ref x1, .ref 11, .ref x3, .int x4, d5, d6, d7] [] σ (wV q.1) q.2 ∧ Gr q.2 := by
  have h : (k8 x1 x3 (x4 + 1) σ) = some q := h
  refine ev_a (fun he => ev_iinc (ls' := [.ref 193, .ref x1, .ref 11, .ref x3, .int (x4 + 1), d5, d6, d7]) rfl rfl rfl (Nat.le_of_ble_eq_true rfl) rfl he) ?_
  refine ev_a (fun he => ev_goto rfl he) ?_
  exact hk8 x1 x3 (x4 + 1) (d5) (d6) (d7) σ q h hG hx1 hx3
def J_X3_gather_65 (N : Nat) (k8 : Nat → Nat → Int32 → aSt → Option (Unit × aSt)) (x1 : Nat) (x3 : Nat) (x4 : Int32) (x5 : Nat) (x6 : Int32) (s0 : Int32) (σ : aSt) : Option (Unit × aSt) := if s0 = 0 then J_X3_gather_119 N k8 x1 x3 x4 σ else if (aI σ x1 2) < ((aI σ x5 2) + x6) then J_X3_gather_119 N k8 x1 x3 x4 σ else cO (¬ ((aI σ 193 2) < 0 ∨ 24 ≤ (aI σ 193 2).toNatClampNeg)) (lt (aWI σ 194 (aI σ 193 2).toNatClampNeg x4) fun σ4 => cO (¬ ((aI σ4 193 2) < 0 ∨ 24 ≤ (aI σ4 193 2).toNatClampNeg)) (lt (aWI σ4 195 (aI σ4 193 2).toNatClampNeg x6) fun σ8 => lt (aWI σ8 193 2 ((aI σ8 193 2) + 1)) fun σ11 => J_X3_gather_119 N k8 x1 x3 x4 σ11))
set_option maxRecDepth 20000 in
set_option maxHeartbeats 4000000 in
theorem TJ_X3_gather_65 (xs : Nat → Int32) (L : Nat) (N : Nat) (k8 : Nat → Nat → Int32 → aSt → Option (Unit × aSt)) (hk8 : ∀ (x1 : Nat) (x3 : Nat) (x4 : Int32) (d5 : Value) (d6 : Value) (d7 : Value) (σ : aSt) (q : Unit × aSt), k8 x1 x3 x4 σ = some q → Gr σ → isLy x1 → isSale x3 → Ev xs L 20 8 [.ref 193, .ref x1, .ref 11, .ref x3, .int x4, d5, d6, d7] [] σ (wV q.1) q.2 ∧ Gr q.2) (x1 : Nat) (x3 : Nat) (x4 : Int32) (x5 : Nat) (x6 : Int32) (s0 : Int32) (d7 : Value) (σ : aSt) (q : Unit × aSt) (h : J_X3_gather_65 N k8 x1 x3 x4 x5 x6 s0 σ = some q) (hG : Gr σ) (hx1 : isLy x1) (hx3 : isSale x3) (hx5 : isOu x5) : Ev xs L 20 65 [.ref 193, .ref x1, .ref 11, .ref x3, .int x4, .ref x5, .int x6, d7] [.int s0] σ (wV q.1) q.2 ∧ Gr q.2 := by
  have h : (if s0 = 0 then J_X3_gather_119 N k8 x1 x3 x4 σ else if (aI σ x1 2) < ((aI σ x5 2) + x6) then J_X3_gather_119 N k8 x1 x3 x4 σ else cO (¬ ((aI σ 193 2) < 0 ∨ 24 ≤ (aI σ 193 2).toNatClampNeg)) (lt (aWI σ 194 (aI σ 193 2).toNatClampNeg x4) fun σ4 => cO (¬ ((aI σ4 193 2) < 0 ∨ 24 ≤ (aI σ4 193 2).toNatClampNeg)) (lt (aWI σ4 195 (aI σ4 193 2).toNatClampNeg x6) fun σ8 => lt (aWI σ8 193 2 ((aI σ8 193 2) + 1)) fun σ11 => J_X3_gather_119 N k8 x1 x3 x4 σ11))) = some q := h
  refine ev_a (fun he => ev_istore (ls' := [.ref 193, .ref x1, .ref 11, .ref x3, .int x4, .ref x5, .int x6, .int s0]) rfl (Nat.le_of_ble_eq_true rfl) rfl he) ?_
  refine ev_a (fun he => ev_iload rfl rfl he) ?_
  refine ev_b (c := s0 = 0) (fun ht hf => ev_ifeq rfl ht hf) (fun hc1 => ?_) (fun hc1 => ?_)
  · rw [if_pos hc1] at h
    exact TJ_X3_gather_119 xs L N k8 hk8 x1 x3 x4 (.ref x5) (.int x6) (.int s0) σ q h hG hx1 hx3
  · rw [if_neg hc1] at h
    refine ev_a (fun he => ev_aload rfl rfl he) ?_
    refine ev_a (fun he => ev_getI rfl (gr_ob (n := 8) hG (sh_Ou0 hx5)) he) ?_
    refine ev_a (fun he => ev_iload rfl rfl he) ?_
    refine ev_a (fun he => ev_bin (z := (aI σ x5 2) + x6) rfl rfl he) ?_
    refine ev_a (fun he => ev_aload rfl rfl he) ?_
    refine ev_a (fun he => ev_getI rfl (gr_ob (n := 6) hG (sh_Ly0 hx1)) he) ?_
    refine ev_b (c := (aI σ x1 2) < ((aI σ x5 2) + x6)) (fun ht hf => ev_cgt rfl ht hf) (fun hc2 => ?_) (fun hc2 => ?_)
    · rw [if_pos hc2] at h
      exact TJ_X3_gather_119 xs L N k8 hk8 x1 x3 x4 (.ref x5) (.int x6) (.int s0) σ q h hG hx1 hx3
    · rw [if_neg hc2] at h
      refine ev_a (fun he => ev_aload rfl rfl he) ?_
      refine ev_a (fun he => ev_getR rfl (gr_ob (n := 4) hG rfl) (gr_p (a := 193) (k := 0) (b := 194) hG rfl) he) ?_
      refine ev_a (fun he => ev_aload rfl rfl he) ?_
      refine ev_a (fun he => ev_getI rfl (gr_ob (n := 4) hG rfl) he) ?_
      refine ev_a (fun he => ev_iload rfl rfl he) ?_
      obtain ⟨hc3, h⟩ := cO_inv h
      obtain ⟨σ4, e5, h⟩ := lt_inv h
      have hG6 : Gr σ4 := gr_wi e5 hG
      refine ev_a (fun he => ev_astI (k := (aI σ 193 2).toNatClampNeg) rfl (gr_ar hG rfl) hc3 rfl rfl e5 he) ?_
      refine ev_a (fun he => ev_aload rfl rfl he) ?_
      refine ev_a (fun he => ev_getR rfl (gr_ob (n := 4) hG6 rfl) (gr_p (a := 193) (k := 1) (b := 195) hG6 rfl) he) ?_
      refine ev_a (fun he => ev_aload rfl rfl he) ?_
      refine ev_a (fun he => ev_getI rfl (gr_ob (n := 4) hG6 rfl) he) ?_
      refine ev_a (fun he => ev_iload rfl rfl he) ?_
      obtain ⟨hc7, h⟩ := cO_inv h
      obtain ⟨σ8, e9, h⟩ := lt_inv h
      have hG10 : Gr σ8 := gr_wi e9 hG6
      refine ev_a (fun he => ev_astI (k := (aI σ4 193 2).toNatClampNeg) rfl (gr_ar hG6 rfl) hc7 rfl rfl e9 he) ?_
      refine ev_a (fun he => ev_aload rfl rfl he) ?_
      refine ev_a (fun he => ev_dupR rfl he) ?_
      refine ev_a (fun he => ev_getI rfl (gr_ob (n := 4) hG10 rfl) he) ?_
      refine ev_a (fun he => ev_push rfl he) ?_
      refine ev_a (fun he => ev_bin (z := (aI σ8 193 2) + 1) rfl rfl he) ?_
      obtain ⟨σ11, e12, h⟩ := lt_inv h
      have hG13 : Gr σ11 := gr_wi e12 hG10
      refine ev_a (fun he => ev_putI rfl (gr_ob (n := 4) hG10 rfl) e12 he) ?_
      exact TJ_X3_gather_119 xs L N k8 hk8 x1 x3 x4 (.ref x5) (.int x6) (.int s0) σ11 q h hG13 hx1 hx3
def J_X3_gather_64 (N : Nat) (k8 : Nat → Nat → Int32 → aSt → Option (Unit × aSt)) (x1 : Nat) (x3 : Nat) (x4 : Int32) (x5 : Nat) (x6 : Int32) (σ : aSt) : Option (Unit × aSt) := J_X3_gather_65 N k8 x1 x3 x4 x5 x6 0 σ
set_option maxRecDepth 20000 in
set_option maxHeartbeats 4000000 in
theorem TJ_X3_gather_64 (xs : Nat → Int32) (L : Nat) (N : Nat) (k8 : Nat → Nat → Int32 → aSt → Option (Unit × aSt)) (hk8 : ∀ (x1 : Nat) (x3 : Nat) (x4 : Int32) (d5 : Value) (d6 : Value) (d7 : Value) (σ : aSt) (q : Unit × aSt), k8 x1 x3 x4 σ = some q → Gr σ → isLy x1 → isSale x3 → Ev xs L 20 8 [.ref 193, .ref x1, .ref 11, .ref x3, .int x4, d5, d6, d7] [] σ (wV q.1) q.2 ∧ Gr q.2) (x1 : Nat) (x3 : Nat) (x4 : Int32) (x5 : Nat) (x6 : Int32) (d7 : Value) (σ : aSt) (q : Unit × aSt) (h : J_X3_gather_64 N k8 x1 x3 x4 x5 x6 σ = some q) (hG : Gr σ) (hx1 : isLy x1) (hx3 : isSale x3) (hx5 : isOu x5) : Ev xs L 20 64 [.ref 193, .ref x1, .ref 11, .ref x3, .int x4, .ref x5, .int x6, d7] [] σ (wV q.1) q.2 ∧ Gr q.2 := by
  have h : (J_X3_gather_65 N k8 x1 x3 x4 x5 x6 0 σ) = some q := h
  refine ev_a (fun he => ev_push rfl he) ?_
  exact TJ_X3_gather_65 xs L N k8 hk8 x1 x3 x4 x5 x6 0 (d7) σ q h hG hx1 hx3 hx5
def H_X3_gather_8 (N : Nat) : Nat → Nat → Nat → Int32 → aSt → Option (Unit × aSt)
  | 0, _, _, _, _ => none
  | n + 1, x1, x3, x4, σ => if (aI σ 11 1) ≤ x4 then some ((), σ) else cO (¬ (x4 < 0 ∨ 24 ≤ x4.toNatClampNeg)) (cO (¬ (x4 < 0 ∨ 24 ≤ x4.toNatClampNeg)) (if (aI σ (x3 + 4 + x4.toNatClampNeg) 7) ≠ ((-1)) then J_X3_gather_64 N (H_X3_gather_8 N n) x1 x3 x4 (x3 + 4 + x4.toNatClampNeg) (aI σ (23 + x4.toNatClampNeg) 3) σ else oB (F_X9_isSoldTo N x3 (aI σ x1 0) x4 σ) fun y18 σ19 => if y18 = 0 then J_X3_gather_64 N (H_X3_gather_8 N n) x1 x3 x4 (x3 + 4 + x4.toNatClampNeg) (aI σ (23 + x4.toNatClampNeg) 3) σ19 else J_X3_gather_65 N (H_X3_gather_8 N n) x1 x3 x4 (x3 + 4 + x4.toNatClampNeg) (aI σ (23 + x4.toNatClampNeg) 3) 1 σ19))
set_option maxRecDepth 20000 in
set_option maxHeartbeats 4000000 in
theorem TH_X3_gather_8 (xs : Nat → Int32) (L : Nat) (N : Nat) : ∀ (n : Nat) (x1 : Nat) (x3 : Nat) (x4 : Int32) (d5 : Value) (d6 : Value) (d7 : Value) (σ : aSt) (q : Unit × aSt), H_X3_gather_8 N n x1 x3 x4 σ = some q → Gr σ → isLy x1 → isSale x3 → Ev xs L 20 8 [.ref 193, .ref x1, .ref 11, .ref x3, .int x4, d5, d6, d7] [] σ (wV q.1) q.2 ∧ Gr q.2 := by
  intro n
  induction n with
  | zero =>
    intro x1 x3 x4 d5 d6 d7 σ q h hG hx1 hx3
    exact absurd (show (none : Option (Unit × aSt)) = some q from h) (by simp)
  | succ n ih =>
    intro x1 x3 x4 d5 d6 d7 σ q h hG hx1 hx3
    have hk8 : ∀ (x1 : Nat) (x3 : Nat) (x4 : Int32) (d5 : Value) (d6 : Value) (d7 : Value) (σ : aSt) (q : Unit × aSt), H_X3_gather_8 N n x1 x3 x4 σ = some q → Gr σ → isLy x1 → isSale x3 → Ev xs L 20 8 [.ref 193, .ref x1, .ref 11, .ref x3, .int x4, d5, d6, d7] [] σ (wV q.1) q.2 ∧ Gr q.2 := ih
    have h : (if (aI σ 11 1) ≤ x4 then some ((), σ) else cO (¬ (x4 < 0 ∨ 24 ≤ x4.toNatClampNeg)) (cO (¬ (x4 < 0 ∨ 24 ≤ x4.toNatClampNeg)) (if (aI σ (x3 + 4 + x4.toNatClampNeg) 7) ≠ ((-1)) then J_X3_gather_64 N (H_X3_gather_8 N n) x1 x3 x4 (x3 + 4 + x4.toNatClampNeg) (aI σ (23 + x4.toNatClampNeg) 3) σ else oB (F_X9_isSoldTo N x3 (aI σ x1 0) x4 σ) fun y18 σ19 => if y18 = 0 then J_X3_gather_64 N (H_X3_gather_8 N n) x1 x3 x4 (x3 + 4 + x4.toNatClampNeg) (aI σ (23 + x4.toNatClampNeg) 3) σ19 else J_X3_gather_65 N (H_X3_gather_8 N n) x1 x3 x4 (x3 + 4 + x4.toNatClampNeg) (aI σ (23 + x4.toNatClampNeg) 3) 1 σ19))) = some q := h
    refine ev_a (fun he => ev_iload rfl rfl he) ?_
    refine ev_a (fun he => ev_aload rfl rfl he) ?_
    refine ev_a (fun he => ev_getI rfl (gr_ob (n := 7) hG rfl) he) ?_
    refine ev_b (c := (aI σ 11 1) ≤ x4) (fun ht hf => ev_cge rfl ht hf) (fun hc14 => ?_) (fun hc14 => ?_)
    · rw [if_pos hc14] at h
      cases h
      exact ⟨ev_retV rfl, hG⟩
    · rw [if_neg hc14] at h
      refine ev_a (fun he => ev_aload rfl rfl he) ?_
      refine ev_a (fun he => ev_getR rfl (gr_ob (n := 9) hG (sh_Sale0 hx3)) (gr_p hG (gf_Sale1 hx3)) he) ?_
      refine ev_a (fun he => ev_iload rfl rfl he) ?_
      obtain ⟨hc15, h⟩ := cO_inv h
      refine ev_a (fun he => ev_aldR rfl (gr_ar hG (sh_Sale1 hx3)) (by decide) hc15 (gr_p hG (el_Ou hx3 hc15).1) he) ?_
      refine ev_a (fun he => ev_astore (ls' := [.ref 193, .ref x1, .ref 11, .ref x3, .int x4, .ref (x3 + 4 + x4.toNatClampNeg), d6, d7]) rfl (Nat.le_of_ble_eq_true rfl) rfl he) ?_
      refine ev_a (fun he => ev_aload rfl rfl he) ?_
      refine ev_a (fun he => ev_getR rfl (gr_ob (n := 7) hG rfl) (gr_p (a := 11) (k := 0) (b := 12) hG rfl) he) ?_
      refine ev_a (fun he => ev_iload rfl rfl he) ?_
      obtain ⟨hc16, h⟩ := cO_inv h
      refine ev_a (fun he => ev_aldR rfl (gr_ar hG rfl) (by decide) hc16 (gr_p hG (el_Lo hc16).1) he) ?_
      refine ev_a (fun he => ev_getI rfl (gr_ob (n := 5) hG (sh_Lo0 (el_Lo hc16).2)) he) ?_
      refine ev_a (fun he => ev_istore (ls' := [.ref 193, .ref x1, .ref 11, .ref x3, .int x4, .ref (x3 + 4 + x4.toNatClampNeg), .int (aI σ (23 + x4.toNatClampNeg) 3), d7]) rfl (Nat.le_of_ble_eq_true rfl) rfl he) ?_
      refine ev_a (fun he => ev_aload rfl rfl he) ?_
      refine ev_a (fun he => ev_getI rfl (gr_ob (n := 8) hG (sh_Ou0 (el_Ou hx3 hc15).2)) he) ?_
      refine ev_a (fun he => ev_push rfl he) ?_
      refine ev_b (c := (aI σ (x3 + 4 + x4.toNatClampNeg) 7) ≠ ((-1))) (fun ht hf => ev_cne rfl ht hf) (fun hc17 => ?_) (fun hc17 => ?_)
      · rw [if_pos hc17] at h
        exact TJ_X3_gather_64 xs L N (H_X3_gather_8 N n) hk8 x1 x3 x4 (x3 + 4 + x4.toNatClampNeg) (aI σ (23 + x4.toNatClampNeg) 3) (d7) σ q h hG hx1 hx3 (el_Ou hx3 hc15).2
      · rw [if_neg hc17] at h
        refine ev_a (fun he => ev_aload rfl rfl he) ?_
        refine ev_a (fun he => ev_aload rfl rfl he) ?_
        refine ev_a (fun he => ev_getI rfl (gr_ob (n := 6) hG (sh_Ly0 hx1)) he) ?_
        refine ev_a (fun he => ev_iload rfl rfl he) ?_
        obtain ⟨y18, σ19, h20, h⟩ := oB_inv h
        obtain ⟨c21, hG22⟩ := T_X9_isSoldTo xs L N x3 (aI σ x1 0) x4 σ (y18, σ19) h20 hG hx3
        refine ev_a (fun he => ev_callV (as := [.int (aI σ x1 0), .int x4]) rfl (gr_ob (n := 9) hG (sh_Sale0 hx3)) rfl rfl rfl (Nat.le_of_ble_eq_true rfl) (Nat.le_of_ble_eq_true rfl) c21 he) ?_
        refine ev_b (c := y18 = 0) (fun ht hf => ev_ifeq rfl ht hf) (fun hc23 => ?_) (fun hc23 => ?_)
        · rw [if_pos hc23] at h
          exact TJ_X3_gather_64 xs L N (H_X3_gather_8 N n) hk8 x1 x3 x4 (x3 + 4 + x4.toNatClampNeg) (aI σ (23 + x4.toNatClampNeg) 3) (d7) σ19 q h hG22 hx1 hx3 (el_Ou hx3 hc15).2
        · rw [if_neg hc23] at h
          refine ev_a (fun he => ev_push rfl he) ?_
          refine ev_a (fun he => ev_goto rfl he) ?_
          exact TJ_X3_gather_65 xs L N (H_X3_gather_8 N n) hk8 x1 x3 x4 (x3 + 4 + x4.toNatClampNeg) (aI σ (23 + x4.toNatClampNeg) 3) 1 (d7) σ19 q h hG22 hx1 hx3 (el_Ou hx3 hc15).2
def F_X3_gather (N : Nat) (x1 : Nat) (x3 : Nat) (σ : aSt) : Option (Unit × aSt) := lt (aWI σ 193 2 0) fun σ24 => H_X3_gather_8 N N x1 x3 0 σ24
set_option maxRecDepth 20000 in
set_option maxHeartbeats 4000000 in
theorem T_X3_gather (xs : Nat → Int32) (L : Nat) (N : Nat) (x1 : Nat) (x3 : Nat) (σ : aSt) (q : Unit × aSt) (h : F_X3_gather N x1 x3 σ = some q) (hG : Gr σ) (hx1 : isLy x1) (hx3 : isSale x3) : Cal xs L 20 [.ref 193, .ref x1, .ref 11, .ref x3] σ (wV q.1) q.2 ∧ Gr q.2 := by
  have h : (lt (aWI σ 193 2 0) fun σ24 => H_X3_gather_8 N N x1 x3 0 σ24) = some q := h
  show Ev xs L 20 0 [.ref 193, .ref x1, .ref 11, .ref x3, aU, aU, aU, aU] [] σ (wV q.1) q.2 ∧ Gr q.2
  refine ev_a (fun he => ev_aload rfl rfl he) ?_
  refine ev_a (fun he => ev_push rfl he) ?_
  obtain ⟨σ24, e25, h⟩ := lt_inv h
  have hG26 : Gr σ24 := gr_wi e25 hG
  refine ev_a (fun he => ev_putI rfl (gr_ob (n := 4) hG rfl) e25 he) ?_
  refine ev_a (fun he => ev_push rfl he) ?_
  refine ev_a (fun he => ev_istore (ls' := [.ref 193, .ref x1, .ref 11, .ref x3, .int 0, aU, aU, aU]) rfl (Nat.le_of_ble_eq_true rfl) rfl he) ?_
  exact TH_X3_gather_8 xs L N N x1 x3 0 (aU) (aU) (aU) σ24 q h hG26 hx1 hx3
