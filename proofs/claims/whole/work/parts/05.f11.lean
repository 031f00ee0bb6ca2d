def J_X8_takeOperator_40 (N : Nat) (σ : aSt) : Option (Unit × aSt) := some ((), σ)
set_option maxRecDepth 20000 in
set_option maxHeartbeats 4000000 in
theorem TJ_X8_takeOperator_40 (xs : Nat → Int32) (L : Nat) (N : Nat) (d0 : Value) (d1 : Value) (σ : aSt) (q : Unit × aSt) (h : J_X8_takeOperator_40 N  σ = some q) (hG : Gr σ) : Ev xs L 44 40 [d0, d1] [] σ (wV q.1) q.2 ∧ Gr q.2 := by
  have h : (some ((), σ)) = some q := h
  cases h
  exact ⟨ev_retV rfl, hG⟩
def J_X8_takeOperator_35 (N : Nat) (σ : aSt) : Option (Unit × aSt) := lt (aWI σ 1 8 1) fun σ1 => J_X8_takeOperator_40 N σ1
set_option maxRecDepth 20000 in
set_option maxHeartbeats 4000000 in
theorem TJ_X8_takeOperator_35 (xs : Nat → Int32) (L : Nat) (N : Nat) (d1 : Value) (σ : aSt) (q : Unit × aSt) (h : J_X8_takeOperator_35 N  σ = some q) (hG : Gr σ) : Ev xs L 44 35 [.ref 1, d1] [] σ (wV q.1) q.2 ∧ Gr q.2 := by
  have h : (lt (aWI σ 1 8 1) fun σ1 => J_X8_takeOperator_40 N σ1) = some q := h
  refine ev_a (fun he => ev_aload rfl rfl he) ?_
  refine ev_a (fun he => ev_push rfl he) ?_
  obtain ⟨σ1, e2, h⟩ := lt_inv h
  have hG3 : Gr σ1 := gr_wi e2 hG
  refine ev_a (fun he => ev_putI rfl (gr_ob (n := 12) hG rfl) e2 he) ?_
  exact TJ_X8_takeOperator_40 xs L N (.ref 1) (d1) σ1 q h hG3
def F_X8_takeOperator (N : Nat) (x1 : Int32) (σ : aSt) : Option (Unit × aSt) := oB (F_X8_pend N x1 σ) fun y4 σ5 => lt (aWI σ5 1 7 1) fun σ9 => oB (F_X10_isRelation N x1 σ9) fun y12 σ13 => if y12 = 0 then if x1 = 5 then J_X8_takeOperator_35 N σ13 else if x1 ≠ 4 then J_X8_takeOperator_40 N σ13 else J_X8_takeOperator_35 N σ13 else lt (aWI σ13 1 8 2) fun σ20 => J_X8_takeOperator_40 N σ20
set_option maxRecDepth 20000 in
set_option maxHeartbeats 4000000 in
theorem T_X8_takeOperator (xs : Nat → Int32) (L : Nat) (N : Nat) (x1 : Int32) (σ : aSt) (q : Unit × aSt) (h : F_X8_takeOperator N x1 σ = some q) (hG : Gr σ) : Cal xs L 44 [.ref 1, .int x1] σ (wV q.1) q.2 ∧ Gr q.2 := by
  have h : (oB (F_X8_pend N x1 σ) fun y4 σ5 => lt (aWI σ5 1 7 1) fun σ9 => oB (F_X10_isRelation N x1 σ9) fun y12 σ13 => if y12 = 0 then if x1 = 5 then J_X8_takeOperator_35 N σ13 else if x1 ≠ 4 then J_X8_takeOperator_40 N σ13 else J_X8_takeOperator_35 N σ13 else lt (aWI σ13 1 8 2) fun σ20 => J_X8_takeOperator_40 N σ20) = some q := h
  show Ev xs L 44 0 [.ref 1, .int x1] [] σ (wV q.1) q.2 ∧ Gr q.2
  refine ev_a (fun he => ev_aload rfl rfl he) ?_
  refine ev_a (fun he => ev_iload rfl rfl he) ?_
  obtain ⟨y4, σ5, h6, h⟩ := oB_inv h
  obtain ⟨c7, hG8⟩ := T_X8_pend xs L N x1 σ (y4, σ5) h6 hG
  refine ev_a (fun he => ev_callV (as := [.int x1]) rfl (gr_ob (n := 12) hG rfl) rfl rfl rfl (Nat.le_of_ble_eq_true rfl) (Nat.le_of_ble_eq_true rfl) c7 he) ?_
  refine ev_a (fun he => ev_aload rfl rfl he) ?_
  refine ev_a (fun he => ev_push rfl he) ?_
  obtain ⟨σ9, e10, h⟩ := lt_inv h
  have hG11 : Gr σ9 := gr_wi e10 hG8
  refine ev_a (fun he => ev_putI rfl (gr_ob (n := 12) hG8 rfl) e10 he) ?_
  refine ev_a (fun he => ev_iload rfl rfl he) ?_
  obtain ⟨y12, σ13, h14, h⟩ := oB_inv h
  obtain ⟨c15, hG16⟩ := T_X10_isRelation xs L N x1 σ9 (y12, σ13) h14 hG11
  refine ev_a (fun he => ev_callS (as := [.int x1]) rfl rfl rfl rfl (Nat.le_of_ble_eq_true rfl) (Nat.le_of_ble_eq_true rfl) c15 he) ?_
  refine ev_b (c := y12 = 0) (fun ht hf => ev_ifeq rfl ht hf) (fun hc17 => ?_) (fun hc17 => ?_)
  · rw [if_pos hc17] at h
    refine ev_a (fun he => ev_iload rfl rfl he) ?_
    refine ev_a (fun he => ev_push rfl he) ?_
    refine ev_b (c := x1 = 5) (fun ht hf => ev_ceq rfl ht hf) (fun hc18 => ?_) (fun hc18 => ?_)
    · rw [if_pos hc18] at h
      exact TJ_X8_takeOperator_35 xs L N (.int x1) σ13 q h hG16
    · rw [if_neg hc18] at h
      refine ev_a (fun he => ev_iload rfl rfl he) ?_
      refine ev_a (fun he => ev_push rfl he) ?_
      refine ev_b (c := x1 ≠ 4) (fun ht hf => ev_cne rfl ht hf) (fun hc19 => ?_) (fun hc19 => ?_)
      · rw [if_pos hc19] at h
        exact TJ_X8_takeOperator_40 xs L N (.ref 1) (.int x1) σ13 q h hG16
      · rw [if_neg hc19] at h
        exact TJ_X8_takeOperator_35 xs L N (.int x1) σ13 q h hG16
  · rw [if_neg hc17] at h
    refine ev_a (fun he => ev_aload rfl rfl he) ?_
    refine ev_a (fun he => ev_push rfl he) ?_
    obtain ⟨σ20, e21, h⟩ := lt_inv h
    have hG22 : Gr σ20 := gr_wi e21 hG16
    refine ev_a (fun he => ev_putI rfl (gr_ob (n := 12) hG16 rfl) e21 he) ?_
    refine ev_a (fun he => ev_goto rfl he) ?_
    exact TJ_X8_takeOperator_40 xs L N (.ref 1) (.int x1) σ20 q h hG22
def J_X8_takeBehindUnit_96 (N : Nat) (σ : aSt) : Option (Unit × aSt) := some ((), σ)
set_option maxRecDepth 20000 in
set_option maxHeartbeats 4000000 in
theorem TJ_X8_takeBehindUnit_96 (xs : Nat → Int32) (L : Nat) (N : Nat) (d0 : Value) (d1 : Value) (σ : aSt) (q : Unit × aSt) (h : J_X8_takeBehindUnit_96 N  σ = some q) (hG : Gr σ) : Ev xs L 43 96 [d0, d1] [] σ (wV q.1) q.2 ∧ Gr q.2 := by
  have h : (some ((), σ)) = some q := h
  cases h
  exact ⟨ev_retV rfl, hG⟩
def J_X8_takeBehindUnit_51 (N : Nat) (σ : aSt) : Option (Unit × aSt) := oB (F_X10_endRule N (aTxt σ 1 2) σ) fun y1 σ2 => lt (aWI σ2 1 7 0) fun σ6 => J_X8_takeBehindUnit_96 N σ6
set_option maxRecDepth 20000 in
set_option maxHeartbeats 4000000 in
theorem TJ_X8_takeBehindUnit_51 (xs : Nat → Int32) (L : Nat) (N : Nat) (d1 : Value) (σ : aSt) (q : Unit × aSt) (h : J_X8_takeBehindUnit_51 N  σ = some q) (hG : Gr σ) : Ev xs L 43 51 [.ref 1, d1] [] σ (wV q.1) q.2 ∧ Gr q.2 := by
  have h : (oB (F_X10_endRule N (aTxt σ 1 2) σ) fun y1 σ2 => lt (aWI σ2 1 7 0) fun σ6 => J_X8_takeBehindUnit_96 N σ6) = some q := h
  refine ev_a (fun he => ev_aload rfl rfl he) ?_
  refine ev_a (fun he => ev_getR rfl (gr_ob (n := 12) hG rfl) (gr_tx (a := 1) (k := 2) hG (by decide)).1 he) ?_
  obtain ⟨y1, σ2, h3, h⟩ := oB_inv h
  obtain ⟨c4, hG5⟩ := T_X10_endRule xs L N (aTxt σ 1 2) σ (y1, σ2) h3 hG (gr_tx (a := 1) (k := 2) hG (by decide)).2
  refine ev_a (fun he => ev_callV (as := []) rfl (gr_ob (n := 8) hG (sh_Tx0 (gr_tx (a := 1) (k := 2) hG (by decide)).2)) rfl rfl rfl (Nat.le_of_ble_eq_true rfl) (Nat.le_of_ble_eq_true rfl) c4 he) ?_
  refine ev_a (fun he => ev_aload rfl rfl he) ?_
  refine ev_a (fun he => ev_push rfl he) ?_
  obtain ⟨σ6, e7, h⟩ := lt_inv h
  have hG8 : Gr σ6 := gr_wi e7 hG5
  refine ev_a (fun he => ev_putI rfl (gr_ob (n := 12) hG5 rfl) e7 he) ?_
  refine ev_a (fun he => ev_goto rfl he) ?_
  exact TJ_X8_takeBehindUnit_96 xs L N (.ref 1) (d1) σ6 q h hG8
def F_X8_takeBehindUnit (N : Nat) (x1 : Int32) (σ : aSt) : Option (Unit × aSt) := oB (F_X8_rank N x1 σ) fun y9 σ10 => oB (F_X8_settle N y9 σ10) fun y14 σ15 => if x1 ≠ 25 then if x1 ≠ 16 then if x1 ≠ 3 then oB (F_X8_takeOperator N x1 σ15) fun y22 σ23 => J_X8_takeBehindUnit_96 N σ23 else oB (F_X10_endValue N (aTxt σ15 1 2) σ15) fun y27 σ28 => lt (aWI σ28 1 8 1) fun σ32 => lt (aWI σ32 1 7 1) fun σ35 => J_X8_takeBehindUnit_96 N σ35 else if (aI σ15 1 8) ≠ 0 then J_X8_takeBehindUnit_51 N σ15 else oB (F_X10_endValue N (aTxt σ15 1 2) σ15) fun y39 σ40 => J_X8_takeBehindUnit_51 N σ40 else lt (aWI σ15 1 9 ((aI σ15 1 9) - 1)) fun σ44 => oB (F_X8_dropOpen N σ44) fun y47 σ48 => J_X8_takeBehindUnit_96 N σ48
set_option maxRecDepth 20000 in
set_option maxHeartbeats 4000000 in
theorem T_X8_takeBehindUnit (xs : Nat → Int32) (L : Nat) (N : Nat) (x1 : Int32) (σ : aSt) (q : Unit × aSt) (h : F_X8_takeBehindUnit N x1 σ = some q) (hG : Gr σ) : Cal xs L 43 [.ref 1, .int x1] σ (wV q.1) q.2 ∧ Gr q.2 := by
  have h : (oB (F_X8_rank N x1 σ) fun y9 σ10 => oB (F_X8_settle N y9 σ10) fun y14 σ15 => if x1 ≠ 25 then if x1 ≠ 16 then if x1 ≠ 3 then oB (F_X8_takeOperator N x1 σ15) fun y22 σ23 => J_X8_takeBehindUnit_96 N σ23 else oB (F_X10_endValue N (aTxt σ15 1 2) σ15) fun y27 σ28 => lt (aWI σ28 1 8 1) fun σ32 => lt (aWI σ32 1 7 1) fun σ35 => J_X8_takeBehindUnit_96 N σ35 else if (aI σ15 1 8) ≠ 0 then J_X8_takeBehindUnit_51 N σ15 else oB (F_X10_endValue N (aTxt σ15 1 2) σ15) fun y39 σ40 => J_X8_takeBehindUnit_51 N σ40 else lt (aWI σ15 1 9 ((aI σ15 1 9) - 1)) fun σ44 => oB (F_X8_dropOpen N σ44) fun y47 σ48 => J_X8_takeBehindUnit_96 N σ48) = some q := h
  show Ev xs L 43 0 [.ref 1, .int x1] [] σ (wV q.1) q.2 ∧ Gr q.2
  refine ev_a (fun he => ev_aload rfl rfl he) ?_
  refine ev_a (fun he => ev_iload rfl rfl he) ?_
  obtain ⟨y9, σ10, h11, h⟩ := oB_inv h
  obtain ⟨c12, hG13⟩ := T_X8_rank xs L N x1 σ (y9, σ10) h11 hG
  refine ev_a (fun he => ev_callS (as := [.int x1]) rfl rfl rfl rfl (Nat.le_of_ble_eq_true rfl) (Nat.le_of_ble_eq_true rfl) c12 he) ?_
  obtain ⟨y14, σ15, h16, h⟩ := oB_inv h
  obtain ⟨c17, hG18⟩ := T_X8_settle xs L N y9 σ10 (y14, σ15) h16 hG13
  refine ev_a (fun he => ev_callV (as := [.int y9]) rfl (gr_ob (n := 12) hG13 rfl) rfl rfl rfl (Nat.le_of_ble_eq_true rfl) (Nat.le_of_ble_eq_true rfl) c17 he) ?_
  refine ev_a (fun he => ev_iload rfl rfl he) ?_
  refine ev_a (fun he => ev_push rfl he) ?_
  refine ev_b (c := x1 ≠ 25) (fun ht hf => ev_cne rfl ht hf) (fun hc19 => ?_) (fun hc19 => ?_)
  · rw [if_pos hc19] at h
    refine ev_a (fun he => ev_iload rfl rfl he) ?_
    refine ev_a (fun he => ev_push rfl he) ?_
    refine ev_b (c := x1 ≠ 16) (fun ht hf => ev_cne rfl ht hf) (fun hc20 => ?_) (fun hc20 => ?_)
    · rw [if_pos hc20] at h
      refine ev_a (fun he => ev_iload rfl rfl he) ?_
      refine ev_a (fun he => ev_push rfl he) ?_
      refine ev_b (c := x1 ≠ 3) (fun ht hf => ev_cne rfl ht hf) (fun hc21 => ?_) (fun hc21 => ?_)
      · rw [if_pos hc21] at h
        refine ev_a (fun he => ev_aload rfl rfl he) ?_
        refine ev_a (fun he => ev_iload rfl rfl he) ?_
        obtain ⟨y22, σ23, h24, h⟩ := oB_inv h
        obtain ⟨c25, hG26⟩ := T_X8_takeOperator xs L N x1 σ15 (y22, σ23) h24 hG18
        refine ev_a (fun he => ev_callV (as := [.int x1]) rfl (gr_ob (n := 12) hG18 rfl) rfl rfl rfl (Nat.le_of_ble_eq_true rfl) (Nat.le_of_ble_eq_true rfl) c25 he) ?_
        exact TJ_X8_takeBehindUnit_96 xs L N (.ref 1) (.int x1) σ23 q h hG26
      · rw [if_neg hc21] at h
        refine ev_a (fun he => ev_aload rfl rfl he) ?_
        refine ev_a (fun he => ev_getR rfl (gr_ob (n := 12) hG18 rfl) (gr_tx (a := 1) (k := 2) hG18 (by decide)).1 he) ?_
        obtain ⟨y27, σ28, h29, h⟩ := oB_inv h
        obtain ⟨c30, hG31⟩ := T_X10_endValue xs L N (aTxt σ15 1 2) σ15 (y27, σ28) h29 hG18 (gr_tx (a := 1) (k := 2) hG18 (by decide)).2
        refine ev_a (fun he => ev_callV (as := []) rfl (gr_ob (n := 8) hG18 (sh_Tx0 (gr_tx (a := 1) (k := 2) hG18 (by decide)).2)) rfl rfl rfl (Nat.le_of_ble_eq_true rfl) (Nat.le_of_ble_eq_true rfl) c30 he) ?_
        refine ev_a (fun he => ev_aload rfl rfl he) ?_
        refine ev_a (fun he => ev_push rfl he) ?_
        obtain ⟨σ32, e33, h⟩ := lt_inv h
        have hG34 : Gr σ32 := gr_wi e33 hG31
        refine ev_a (fun he => ev_putI rfl (gr_ob (n := 12) hG31 rfl) e33 he) ?_
        refine ev_a (fun he => ev_aload rfl rfl he) ?_
        refine ev_a (fun he => ev_push rfl he) ?_
        obtain ⟨σ35, e36, h⟩ := lt_inv h
        have hG37 : Gr σ35 := gr_wi e36 hG34
        refine ev_a (fun he => ev_putI rfl (gr_ob (n := 12) hG34 rfl) e36 he) ?_
        refine ev_a (fun he => ev_goto rfl he) ?_
        exact TJ_X8_takeBehindUnit_96 xs L N (.ref 1) (.int x1) σ35 q h hG37
    · rw [if_neg hc20] at h
      refine ev_a (fun he => ev_aload rfl rfl he) ?_
      refine ev_a (fun he => ev_getI rfl (gr_ob (n := 12) hG18 rfl) he) ?_
      refine ev_b (c := (aI σ15 1 8) ≠ 0) (fun ht hf => ev_ifne rfl ht hf) (fun hc38 => ?_) (fun hc38 => ?_)
      · rw [if_pos hc38] at h
        exact TJ_X8_takeBehindUnit_51 xs L N (.int x1) σ15 q h hG18
      · rw [if_neg hc38] at h
        refine ev_a (fun he => ev_aload rfl rfl he) ?_
        refine ev_a (fun he => ev_getR rfl (gr_ob (n := 12) hG18 rfl) (gr_tx (a := 1) (k := 2) hG18 (by decide)).1 he) ?_
        obtain ⟨y39, σ40, h41, h⟩ := oB_inv h
        obtain ⟨c42, hG43⟩ := T_X10_endValue xs L N (aTxt σ15 1 2) σ15 (y39, σ40) h41 hG18 (gr_tx (a := 1) (k := 2) hG18 (by decide)).2
        refine ev_a (fun he => ev_callV (as := []) rfl (gr_ob (n := 8) hG18 (sh_Tx0 (gr_tx (a := 1) (k := 2) hG18 (by decide)).2)) rfl rfl rfl (Nat.le_of_ble_eq_true rfl) (Nat.le_of_ble_eq_true rfl) c42 he) ?_
        exact TJ_X8_takeBehindUnit_51 xs L N (.int x1) σ40 q h hG43
  · rw [if_neg hc19] at h
    refine ev_a (fun he => ev_aload rfl rfl he) ?_
    refine ev_a (fun he => ev_dupR rfl he) ?_
    refine ev_a (fun he => ev_getI rfl (gr_ob (n := 12) hG18 rfl) he) ?_
    refine ev_a (fun he => ev_push rfl he) ?_
    refine ev_a (fun he => ev_bin (z := (aI σ15 1 9) - 1) rfl rfl he) ?_
    obtain ⟨σ44, e45, h⟩ := lt_inv h
    have hG46 : Gr σ44 := gr_wi e45 hG18
    refine ev_a (fun he => ev_putI rfl (gr_ob (n := 12) hG18 rfl) e45 he) ?_
    refine ev_a (fun he => ev_aload rfl rfl he) ?_
    obtain ⟨y47, σ48, h49, h⟩ := oB_inv h
    obtain ⟨c50, hG51⟩ := T_X8_dropOpen xs L N σ44 (y47, σ48) h49 hG46
    refine ev_a (fun he => ev_callV (as := []) rfl (gr_ob (n := 12) hG46 rfl) rfl rfl rfl (Nat.le_of_ble_eq_true rfl) (Nat.le_of_ble_eq_true rfl) c50 he) ?_
    refine ev_a (fun he => ev_goto rfl he) ?_
    exact TJ_X8_takeBehindUnit_96 xs L N (.ref 1) (.int x1) σ48 q h hG51
def J_X8_take_91 (N : Nat) (σ : aSt) : Option (Unit × aSt) := some ((), σ)
set_option maxRecDepth 20000 in
set_option maxHeartbeats 4000000 in
theorem TJ_X8_take_91 (xs : Nat → Int32) (L : Nat) (N : Nat) (d0 : Value) (d1 : Value) (σ : aSt) (q : Unit × aSt) (h : J_X8_take_91 N  σ = some q) (hG : Gr σ) : Ev xs L 42 91 [d0, d1] [] σ (wV q.1) q.2 ∧ Gr q.2 := by
  have h : (some ((), σ)) = some q := h
  cases h
  exact ⟨ev_retV rfl, hG⟩
def F_X8_take (N : Nat) (x1 : Int32) (σ : aSt) : Option (Unit × aSt) := lt (aWI σ 1 6 ((aI σ 1 6) + 1)) fun σ1 => if (aI σ1 1 7) ≠ 0 then if (aI σ1 1 7) ≠ 2 then if x1 ≠ 24 then oB (F_X10_addCode N (aTxt σ1 1 2) x1 σ1) fun y7 σ8 => lt (aWI σ8 1 7 2) fun σ12 => J_X8_take_91 N σ12 else lt (aWI σ1 1 9 ((aI σ1 1 9) + 1)) fun σ15 => oB (F_X8_pend N x1 σ15) fun y18 σ19 => J_X8_take_91 N σ19 else oB (F_X8_takeBehindUnit N x1 σ1) fun y23 σ24 => J_X8_take_91 N σ24 else oB (F_X10_beginRule N (aTxt σ1 1 2) x1 σ1) fun y28 σ29 => lt (aWI σ29 1 8 0) fun σ33 => lt (aWI σ33 1 7 1) fun σ36 => J_X8_take_91 N σ36
set_option maxRecDepth 20000 in
set_option maxHeartbeats 4000000 in
theorem T_X8_take (xs : Nat → Int32) (L : Nat) (N : Nat) (x1 : Int32) (σ : aSt) (q : Unit × aSt) (h : F_X8_take N x1 σ = some q) (hG : Gr σ) : Cal xs L 42 [.ref 1, .int x1] σ (wV q.1) q.2 ∧ Gr q.2 := by
  have h : (lt (aWI σ 1 6 ((aI σ 1 6) + 1)) fun σ1 => if (aI σ1 1 7) ≠ 0 then if (aI σ1 1 7) ≠ 2 then if x1 ≠ 24 then oB (F_X10_addCode N (aTxt σ1 1 2) x1 σ1) fun y7 σ8 => lt (aWI σ8 1 7 2) fun σ12 => J_X8_take_91 N σ12 else lt (aWI σ1 1 9 ((aI σ1 1 9) + 1)) fun σ15 => oB (F_X8_pend N x1 σ15) fun y18 σ19 => J_X8_take_91 N σ19 else oB (F_X8_takeBehindUnit N x1 σ1) fun y23 σ24 => J_X8_take_91 N σ24 else oB (F_X10_beginRule N (aTxt σ1 1 2) x1 σ1) fun y28 σ29 => lt (aWI σ29 1 8 0) fun σ33 => lt (aWI σ33 1 7 1) fun σ36 => J_X8_take_91 N σ36) = some q := h
  show Ev xs L 42 0 [.ref 1, .int x1] [] σ (wV q.1) q.2 ∧ Gr q.2
  refine ev_a (fun he => ev_aload rfl rfl he) ?_
  refine ev_a (fun he => ev_dupR rfl he) ?_
  refine ev_a (fun he => ev_getI rfl (gr_ob (n := 12) hG rfl) he) ?_
  refine ev_a (fun he => ev_push rfl he) ?_
  refine ev_a (fun he => ev_bin (z := (aI σ 1 6) + 1) rfl rfl he) ?_
  obtain ⟨σ1, e2, h⟩ := lt_inv h
  have hG3 : Gr σ1 := gr_wi e2 hG
  refine ev_a (fun he => ev_putI rfl (gr_ob (n := 12) hG rfl) e2 he) ?_
  refine ev_a (fun he => ev_aload rfl rfl he) ?_
  refine ev_a (fun he => ev_getI rfl (gr_ob (n := 12) hG3 rfl) he) ?_
  refine ev_b (c := (aI σ1 1 7) ≠ 0) (fun ht hf => ev_ifne rfl ht hf) (fun hc4 => ?_) (fun hc4 => ?_)
  · rw [if_pos hc4] at h
    refine ev_a (fun he => ev_aload rfl rfl he) ?_
    refine ev_a (fun he => ev_getI rfl (gr_ob (n := 12) hG3 rfl) he) ?_
    refine ev_a (fun he => ev_push rfl he) ?_
    refine ev_b (c := (aI σ1 1 7) ≠ 2) (fun ht hf => ev_cne rfl ht hf) (fun hc5 => ?_) (fun hc5 => ?_)
    · rw [if_pos hc5] at h
      refine ev_a (fun he => ev_iload rfl rfl he) ?_
      refine ev_a (fun he => ev_push rfl he) ?_
      refine ev_b (c := x1 ≠ 24) (fun ht hf => ev_cne rfl ht hf) (fun hc6 => ?_) (fun hc6 => ?_)
      · rw [if_pos hc6] at h
        refine ev_a (fun he => ev_aload rfl rfl he) ?_
        refine ev_a (fun he => ev_getR rfl (gr_ob (n := 12) hG3 rfl) (gr_tx (a := 1) (k := 2) hG3 (by decide)).1 he) ?_
        refine ev_a (fun he => ev_iload rfl rfl he) ?_
        obtain ⟨y7, σ8, h9, h⟩ := oB_inv h
        obtain ⟨c10, hG11⟩ := T_X10_addCode xs L N (aTxt σ1 1 2) x1 σ1 (y7, σ8) h9 hG3 (gr_tx (a := 1) (k := 2) hG3 (by decide)).2
        refine ev_a (fun he => ev_callV (as := [.int x1]) rfl (gr_ob (n := 8) hG3 (sh_Tx0 (gr_tx (a := 1) (k := 2) hG3 (by decide)).2)) rfl rfl rfl (Nat.le_of_ble_eq_true rfl) (Nat.le_of_ble_eq_true rfl) c10 he) ?_
        refine ev_a (fun he => ev_aload rfl rfl he) ?_
        refine ev_a (fun he => ev_push rfl he) ?_
        obtain ⟨σ12, e13, h⟩ := lt_inv h
        have hG14 : Gr σ12 := gr_wi e13 hG11
        refine ev_a (fun he => ev_putI rfl (gr_ob (n := 12) hG11 rfl) e13 he) ?_
        exact TJ_X8_take_91 xs L N (.ref 1) (.int x1) σ12 q h hG14
      · rw [if_neg hc6] at h
        refine ev_a (fun he => ev_aload rfl rfl he) ?_
        refine ev_a (fun he => ev_dupR rfl he) ?_
        refine ev_a (fun he => ev_getI rfl (gr_ob (n := 12) hG3 rfl) he) ?_
        refine ev_a (fun he => ev_push rfl he) ?_
        refine ev_a (fun he => ev_bin (z := (aI σ1 1 9) + 1) rfl rfl he) ?_
        obtain ⟨σ15, e16, h⟩ := lt_inv h
        have hG17 : Gr σ15 := gr_wi e16 hG3
        refine ev_a (fun he => ev_putI rfl (gr_ob (n := 12) hG3 rfl) e16 he) ?_
        refine ev_a (fun he => ev_aload rfl rfl he) ?_
        refine ev_a (fun he => ev_iload rfl rfl he) ?_
        obtain ⟨y18, σ19, h20, h⟩ := oB_inv h
        obtain ⟨c21, hG22⟩ := T_X8_pend xs L N x1 σ15 (y18, σ19) h20 hG17
        refine ev_a (fun he => ev_callV (as := [.int x1]) rfl (gr_ob (n := 12) hG17 rfl) rfl rfl rfl (Nat.le_of_ble_eq_true rfl) (Nat.le_of_ble_eq_true rfl) c21 he) ?_
        refine ev_a (fun he => ev_goto rfl he) ?_
        exact TJ_X8_take_91 xs L N (.ref 1) (.int x1) σ19 q h hG22
    · rw [if_neg hc5] at h
      refine ev_a (fun he => ev_aload rfl rfl he) ?_
      refine ev_a (fun he => ev_iload rfl rfl he) ?_
      obtain ⟨y23, σ24, h25, h⟩ := oB_inv h
      obtain ⟨c26, hG27⟩ := T_X8_takeBehindUnit xs L N x1 σ1 (y23, σ24) h25 hG3
      refine ev_a (fun he => ev_callV (as := [.int x1]) rfl (gr_ob (n := 12) hG3 rfl) rfl rfl rfl (Nat.le_of_ble_eq_true rfl) (Nat.le_of_ble_eq_true rfl) c26 he) ?_
      refine ev_a (fun he => ev_goto rfl he) ?_
      exact TJ_X8_take_91 xs L N (.ref 1) (.int x1) σ24 q h hG27
  · rw [if_neg hc4] at h
    refine ev_a (fun he => ev_aload rfl rfl he) ?_
    refine ev_a (fun he => ev_getR rfl (gr_ob (n := 12) hG3 rfl) (gr_tx (a := 1) (k := 2) hG3 (by decide)).1 he) ?_
    refine ev_a (fun he => ev_iload rfl rfl he) ?_
    obtain ⟨y28, σ29, h30, h⟩ := oB_inv h
    obtain ⟨c31, hG32⟩ := T_X10_beginRule xs L N (aTxt σ1 1 2) x1 σ1 (y28, σ29) h30 hG3 (gr_tx (a := 1) (k := 2) hG3 (by decide)).2
    refine ev_a (fun he => ev_callV (as := [.int x1]) rfl (gr_ob (n := 8) hG3 (sh_Tx0 (gr_tx (a := 1) (k := 2) hG3 (by decide)).2)) rfl rfl rfl (Nat.le_of_ble_eq_true rfl) (Nat.le_of_ble_eq_true rfl) c31 he) ?_
    refine ev_a (fun he => ev_aload rfl rfl he) ?_
    refine ev_a (fun he => ev_push rfl he) ?_
    obtain ⟨σ33, e34, h⟩ := lt_inv h
    have hG35 : Gr σ33 := gr_wi e34 hG32
    refine ev_a (fun he => ev_putI rfl (gr_ob (n := 12) hG32 rfl) e34 he) ?_
    refine ev_a (fun he => ev_aload rfl rfl he) ?_
    refine ev_a (fun he => ev_push rfl he) ?_
    obtain ⟨σ36, e37, h⟩ := lt_inv h
    have hG38 : Gr σ36 := gr_wi e37 hG35
    refine ev_a (fun he => ev_putI rfl (gr_ob (n := 12) hG35 rfl) e37 he) ?_
    refine ev_a (fun he => ev_goto rfl he) ?_
    exact TJ_X8_take_91 xs L N (.ref 1) (.int x1) σ36 q h hG38
def J_X8_parse_81 (N : Nat) (x1 : Int32) (s1 : Int32) (σ : aSt) : Option (Int32 × aSt) := lt (aWI σ 1 1 s1) fun σ1 => some (x1, σ1)
set_option maxRecDepth 20000 in
set_option maxHeartbeats 4000000 in
theorem TJ_X8_parse_81 (xs : Nat → Int32) (L : Nat) (N : Nat) (x1 : Int32) (s1 : Int32) (d0 : Value) (d2 : Value) (d3 : Value) (d4 : Value) (σ : aSt) (q : Int32 × aSt) (h : J_X8_parse_81 N x1 s1 σ = some q) (hG : Gr σ) : Ev xs L 37 81 [d0, .int x1, d2, d3, d4] [.int s1, .ref 1] σ (wI q.1) q.2 ∧ Gr q.2 := by
  have h : (lt (aWI σ 1 1 s1) fun σ1 => some (x1, σ1)) = some q := h
  obtain ⟨σ1, e2, h⟩ := lt_inv h
  have hG3 : Gr σ1 := gr_wi e2 hG
  refine ev_a (fun he => ev_putI rfl (gr_ob (n := 12) hG rfl) e2 he) ?_
  refine ev_a (fun he => ev_iload rfl rfl he) ?_
  cases h
  exact ⟨ev_retI rfl, hG3⟩
def J_X8_parse_68 (N : Nat) (x1 : Int32) (σ : aSt) : Option (Int32 × aSt) := if x1 ≠ 0 then J_X8_parse_81 N x1 (aI σ 1 5) σ else J_X8_parse_81 N x1 ((-1)) σ
set_option maxRecDepth 20000 in
set_option maxHeartbeats 4000000 in
theorem TJ_X8_parse_68 (xs : Nat → Int32) (L : Nat) (N : Nat) (x1 : Int32) (d2 : Value) (d3 : Value) (d4 : Value) (σ : aSt) (q : Int32 × aSt) (h : J_X8_parse_68 N x1 σ = some q) (hG : Gr σ) : Ev xs L 37 68 [.ref 1, .int x1, d2, d3, d4] [] σ (wI q.1) q.2 ∧ Gr q.2 := by
  have h : (if x1 ≠ 0 then J_X8_parse_81 N x1 (aI σ 1 5) σ else J_X8_parse_81 N x1 ((-1)) σ) = some q := h
  refine ev_a (fun he => ev_aload rfl rfl he) ?_
  refine ev_a (fun he => ev_iload rfl rfl he) ?_
  refine ev_b (c := x1 ≠ 0) (fun ht hf => ev_ifne rfl ht hf) (fun hc4 => ?_) (fun hc4 => ?_)
  · rw [if_pos hc4] at h
    refine ev_a (fun he => ev_aload rfl rfl he) ?_
    refine ev_a (fun he => ev_getI rfl (gr_ob (n := 12) hG rfl) he) ?_
    exact TJ_X8_parse_81 xs L N x1 (aI σ 1 5) (.ref 1) (d2) (d3) (d4) σ q h hG
  · rw [if_neg hc4] at h
    refine ev_a (fun he => ev_push rfl he) ?_
    refine ev_a (fun he => ev_goto rfl he) ?_
    exact TJ_X8_parse_81 xs L N x1 ((-1)) (.ref 1) (d2) (d3) (d4) σ q h hG
def J_X8_parse_62 (N : Nat) (k10 : Int32 → Int32 → Int32 → aSt → Option (Int32 × aSt)) (x1 : Int32) (x2 : Int32) (x3 : Int32) (σ : aSt) : Option (Int32 × aSt) := k10 x1 x2 (x3 + 1) σ
set_option maxRecDepth 20000 in
set_option maxHeartbeats 4000000 in
theorem TJ_X8_parse_62 (xs : Nat → Int32) (L : Nat) (N : Nat) (k10 : Int32 → Int32 → Int32 → aSt → Option (Int32 × aSt)) (hk10 : ∀ (x1 : Int32) (x2 : Int32) (x3 : Int32) (d4 : Value) (σ : aSt) (q : Int32 × aSt), k10 x1 x2 x3 σ = some q → Gr σ → Ev xs L 37 10 [.ref 1, .int x1, .int x2, .int x3, d4] [] σ (wI q.1) q.2 ∧ Gr q.2) (x1 : Int32) (x2 : Int32) (x3 : Int32) (d4 : Value) (σ : aSt) (q : Int32 × aSt) (h : J_X8_parse_62 N k10 x1 x2 x3 σ = some q) (hG : Gr σ) : Ev xs L 37 62 [.ref 1, .int x1, .int x2, .int x3, d4] [] σ (wI q.1) q.2 ∧ Gr q.2 := by
  have h : (k10 x1 x2 (x3 + 1) σ) = some q := h
  refine ev_a (fun he => ev_iinc (ls' := [.ref 1, .int x1, .int x2, .int (x3 + 1), d4]) rfl rfl rfl (Nat.le_of_ble_eq_true rfl) rfl he) ?_
  refine ev_a (fun he => ev_goto rfl he) ?_
  exact hk10 x1 x2 (x3 + 1) (d4) σ q h hG
def J_X8_parse_51 (N : Nat) (k10 : Int32 → Int32 → Int32 → aSt → Option (Int32 × aSt)) (x1 : Int32) (x3 : Int32) (x4 : Int32) (s0 : Int32) (σ : aSt) : Option (Int32 × aSt) := if s0 ≠ 0 then J_X8_parse_62 N k10 x1 s0 x3 σ else oB (F_X8_take N x4 σ) fun y6 σ7 => J_X8_parse_62 N k10 x1 s0 x3 σ7
set_option maxRecDepth 20000 in
set_option maxHeartbeats 4000000 in
theorem TJ_X8_parse_51 (xs : Nat → Int32) (L : Nat) (N : Nat) (k10 : Int32 → Int32 → Int32 → aSt → Option (Int32 × aSt)) (hk10 : ∀ (x1 : Int32) (x2 : Int32) (x3 : Int32) (d4 : Value) (σ : aSt) (q : Int32 × aSt), k10 x1 x2 x3 σ = some q → Gr σ → Ev xs L 37 10 [.ref 1, .int x1, .int x2, .int x3, d4] [] σ (wI q.1) q.2 ∧ Gr q.2) (x1 : Int32) (x3 : Int32) (x4 : Int32) (s0 : Int32) (d2 : Value) (σ : aSt) (q : Int32 × aSt) (h : J_X8_parse_51 N k10 x1 x3 x4 s0 σ = some q) (hG : Gr σ) : Ev xs L 37 51 [.ref 1, .int x1, d2, .int x3, .int x4] [.int s0] σ (wI q.1) q.2 ∧ Gr q.2 := by
  have h : (if s0 ≠ 0 then J_X8_parse_62 N k10 x1 s0 x3 σ else oB (F_X8_take N x4 σ) fun y6 σ7 => J_X8_parse_62 N k10 x1 s0 x3 σ7) = some q := h
  refine ev_a (fun he => ev_istore (ls' := [.ref 1, .int x1, .int s0, .int x3, .int x4]) rfl (Nat.le_of_ble_eq_true rfl) rfl he) ?_
  refine ev_a (fun he => ev_iload rfl rfl he) ?_
  refine ev_b (c := s0 ≠ 0) (fun ht hf => ev_ifne rfl ht hf) (fun hc5 => ?_) (fun hc5 => ?_)
  · rw [if_pos hc5] at h
    exact TJ_X8_parse_62 xs L N k10 hk10 x1 s0 x3 (.int x4) σ q h hG
  · rw [if_neg hc5] at h
    refine ev_a (fun he => ev_aload rfl rfl he) ?_
    refine ev_a (fun he => ev_iload rfl rfl he) ?_
    obtain ⟨y6, σ7, h8, h⟩ := oB_inv h
    obtain ⟨c9, hG10⟩ := T_X8_take xs L N x4 σ (y6, σ7) h8 hG
    refine ev_a (fun he => ev_callV (as := [.int x4]) rfl (gr_ob (n := 12) hG rfl) rfl rfl rfl (Nat.le_of_ble_eq_true rfl) (Nat.le_of_ble_eq_true rfl) c9 he) ?_
    exact TJ_X8_parse_62 xs L N k10 hk10 x1 s0 x3 (.int x4) σ7 q h hG10
def J_X8_parse_46 (N : Nat) (k10 : Int32 → Int32 → Int32 → aSt → Option (Int32 × aSt)) (x1 : Int32) (x3 : Int32) (x4 : Int32) (σ : aSt) : Option (Int32 × aSt) := J_X8_parse_51 N k10 x1 x3 x4 1 σ
set_option maxRecDepth 20000 in
set_option maxHeartbeats 4000000 in
theorem TJ_X8_parse_46 (xs : Nat → Int32) (L : Nat) (N : Nat) (k10 : Int32 → Int32 → Int32 → aSt → Option (Int32 × aSt)) (hk10 : ∀ (x1 : Int32) (x2 : Int32) (x3 : Int32) (d4 : Value) (σ : aSt) (q : Int32 × aSt), k10 x1 x2 x3 σ = some q → Gr σ → Ev xs L 37 10 [.ref 1, .int x1, .int x2, .int x3, d4] [] σ (wI q.1) q.2 ∧ Gr q.2) (x1 : Int32) (x3 : Int32) (x4 : Int32) (d2 : Value) (σ : aSt) (q : Int32 × aSt) (h : J_X8_parse_46 N k10 x1 x3 x4 σ = some q) (hG : Gr σ) : Ev xs L 37 46 [.ref 1, .int x1, d2, .int x3, .int x4] [] σ (wI q.1) q.2 ∧ Gr q.2 := by
  have h : (J_X8_parse_51 N k10 x1 x3 x4 1 σ) = some q := h
  refine ev_a (fun he => ev_push rfl he) ?_
  refine ev_a (fun he => ev_goto rfl he) ?_
  exact TJ_X8_parse_51 xs L N k10 hk10 x1 x3 x4 1 (d2) σ q h hG
def H_X8_parse_10 (N : Nat) : Nat → Int32 → Int32 → Int32 → aSt → Option (Int32 × aSt)
  | 0, _, _, _, _ => none
  | n + 1, x1, x2, x3, σ => if (aI σ 1 0) < x3 then J_X8_parse_68 N x1 σ else if x2 ≠ 0 then J_X8_parse_68 N x1 σ else oB (F_X8_nextToken N σ) fun y13 σ14 => oB (F_X8_faultOf N y13 σ14) fun y18 σ19 => if y18 ≠ 0 then J_X8_parse_46 N (H_X8_parse_10 N n) y18 x3 y13 σ19 else if y13 ≠ 27 then J_X8_parse_51 N (H_X8_parse_10 N n) y18 x3 y13 0 σ19 else J_X8_parse_46 N (H_X8_parse_10 N n) y18 x3 y13 σ19
set_option maxRecDepth 20000 in
set_option maxHeartbeats 4000000 in
theorem TH_X8_parse_10 (xs : Nat → Int32) (L : Nat) (N : Nat) : ∀ (n : Nat) (x1 : Int32) (x2 : Int32) (x3 : Int32) (d4 : Value) (σ : aSt) (q : Int32 × aSt), H_X8_parse_10 N n x1 x2 x3 σ = some q → Gr σ → Ev xs L 37 10 [.ref 1, .int x1, .int x2, .int x3, d4] [] σ (wI q.1) q.2 ∧ Gr q.2 := by
  intro n
  induction n with
  | zero =>
    intro x1 x2 x3 d4 σ q h hG
    exact absurd (show (none : Option (Int32 × aSt)) = some q from h) (by simp)
  | succ n ih =>
    intro x1 x2 x3 d4 σ q h hG
    have hk10 : ∀ (x1 : Int32) (x2 : Int32) (x3 : Int32) (d4 : Value) (σ : aSt) (q : Int32 × aSt), H_X8_parse_10 N n x1 x2 x3 σ = some q → Gr σ → Ev xs L 37 10 [.ref 1, .int x1, .int x2, .int x3, d4] [] σ (wI q.1) q.2 ∧ Gr q.2 := ih
    have h : (if (aI σ 1 0) < x3 then J_X8_parse_68 N x1 σ else if x2 ≠ 0 then J_X8_parse_68 N x1 σ else oB (F_X8_nextToken N σ) fun y13 σ14 => oB (F_X8_faultOf N y13 σ14) fun y18 σ19 => if y18 ≠ 0 then J_X8_parse_46 N (H_X8_parse_10 N n) y18 x3 y13 σ19 else if y13 ≠ 27 then J_X8_parse_51 N (H_X8_parse_10 N n) y18 x3 y13 0 σ19 else J_X8_parse_46 N (H_X8_parse_10 N n) y18 x3 y13 σ19) = some q := h
    refine ev_a (fun he => ev_iload rfl rfl he) ?_
    refine ev_a (fun he => ev_aload rfl rfl he) ?_
    refine ev_a (fun he => ev_getI rfl (gr_ob (n := 12) hG rfl) he) ?_
    refine ev_b (c := (aI σ 1 0) < x3) (fun ht hf => ev_cgt rfl ht hf) (fun hc11 => ?_) (fun hc11 => ?_)
    · rw [if_pos hc11] at h
      exact TJ_X8_parse_68 xs L N x1 (.int x2) (.int x3) (d4) σ q h hG
    · rw [if_neg hc11] at h
      refine ev_a (fun he => ev_iload rfl rfl he) ?_
      refine ev_b (c := x2 ≠ 0) (fun ht hf => ev_ifne rfl ht hf) (fun hc12 => ?_) (fun hc12 => ?_)
      · rw [if_pos hc12] at h
        exact TJ_X8_parse_68 xs L N x1 (.int x2) (.int x3) (d4) σ q h hG
      · rw [if_neg hc12] at h
        refine ev_a (fun he => ev_aload rfl rfl he) ?_
        obtain ⟨y13, σ14, h15, h⟩ := oB_inv h
        obtain ⟨c16, hG17⟩ := T_X8_nextToken xs L N σ (y13, σ14) h15 hG
        refine ev_a (fun he => ev_callV (as := []) rfl (gr_ob (n := 12) hG rfl) rfl rfl rfl (Nat.le_of_ble_eq_true rfl) (Nat.le_of_ble_eq_true rfl) c16 he) ?_
        refine ev_a (fun he => ev_istore (ls' := [.ref 1, .int x1, .int x2, .int x3, .int y13]) rfl (Nat.le_of_ble_eq_true rfl) rfl he) ?_
        refine ev_a (fun he => ev_aload rfl rfl he) ?_
        refine ev_a (fun he => ev_iload rfl rfl he) ?_
        obtain ⟨y18, σ19, h20, h⟩ := oB_inv h
        obtain ⟨c21, hG22⟩ := T_X8_faultOf xs L N y13 σ14 (y18, σ19) h20 hG17
        refine ev_a (fun he => ev_callV (as := [.int y13]) rfl (gr_ob (n := 12) hG17 rfl) rfl rfl rfl (Nat.le_of_ble_eq_true rfl) (Nat.le_of_ble_eq_true rfl) c21 he) ?_
        refine ev_a (fun he => ev_istore (ls' := [.ref 1, .int y18, .int x2, .int x3, .int y13]) rfl (Nat.le_of_ble_eq_true rfl) rfl he) ?_
        refine ev_a (fun he => ev_iload rfl rfl he) ?_
        refine ev_b (c := y18 ≠ 0) (fun ht hf => ev_ifne rfl ht hf) (fun hc23 => ?_) (fun hc23 => ?_)
        · rw [if_pos hc23] at h
          exact TJ_X8_parse_46 xs L N (H_X8_parse_10 N n) hk10 y18 x3 y13 (.int x2) σ19 q h hG22
        · rw [if_neg hc23] at h
          refine ev_a (fun he => ev_iload rfl rfl he) ?_
          refine ev_a (fun he => ev_push rfl he) ?_
          refine ev_b (c := y13 ≠ 27) (fun ht hf => ev_cne rfl ht hf) (fun hc24 => ?_) (fun hc24 => ?_)
          · rw [if_pos hc24] at h
            refine ev_a (fun he => ev_push rfl he) ?_
            exact TJ_X8_parse_51 xs L N (H_X8_parse_10 N n) hk10 y18 x3 y13 0 (.int x2) σ19 q h hG22
          · rw [if_neg hc24] at h
            exact TJ_X8_parse_46 xs L N (H_X8_parse_10 N n) hk10 y18 x3 y13 (.int x2) σ19 q h hG22
def F_X8_parse (N : Nat) (σ : aSt) : Option (Int32 × aSt) := oB (F_X8_begin N σ) fun y25 σ26 => H_X8_parse_10 N N 0 0 0 σ26
set_option maxRecDepth 20000 in
set_option maxHeartbeats 4000000 in
theorem T_X8_parse (xs : Nat → Int32) (L : Nat) (N : Nat) (σ : aSt) (q : Int32 × aSt) (h : F_X8_parse N σ = some q) (hG : Gr σ) : Cal xs L 37 [.ref 1] σ (wI q.1) q.2 ∧ Gr q.2 := by
  have h : (oB (F_X8_begin N σ) fun y25 σ26 => H_X8_parse_10 N N 0 0 0 σ26) = some q := h
  show Ev xs L 37 0 [.ref 1, aU, aU, aU, aU] [] σ (wI q.1) q.2 ∧ Gr q.2
  refine ev_a (fun he => ev_aload rfl rfl he) ?_
  obtain ⟨y25, σ26, h27, h⟩ := oB_inv h
  obtain ⟨c28, hG29⟩ := T_X8_begin xs L N σ (y25, σ26) h27 hG
  refine ev_a (fun he => ev_callV (as := []) rfl (gr_ob (n := 12) hG rfl) rfl rfl rfl (Nat.le_of_ble_eq_true rfl) (Nat.le_of_ble_eq_true rfl) c28 he) ?_
  refine ev_a (fun he => ev_push rfl he) ?_
  refine ev_a (fun he => ev_istore (ls' := [.ref 1, .int 0, aU, aU, aU]) rfl (Nat.le_of_ble_eq_true rfl) rfl he) ?_
  refine ev_a (fun he => ev_push rfl he) ?_
  refine ev_a (fun he => ev_istore (ls' := [.ref 1, .int 0, .int 0, aU, aU]) rfl (Nat.le_of_ble_eq_true rfl) rfl he) ?_
  refine ev_a (fun he => ev_push rfl he) ?_
  refine ev_a (fun he => ev_istore (ls' := [.ref 1, .int 0, .int 0, .int 0, aU]) rfl (Nat.le_of_ble_eq_true rfl) rfl he) ?_
  exact TH_X8_parse_10 xs L N N 0 0 0 (aU) σ26 q h hG29
