def J_X3_fill_147 (N : Nat) (k40 : Nat → Int32 → Nat → Int32 → Int32 → aSt → Option (Unit × aSt)) (x1 : Nat) (x2 : Int32) (x4 : Nat) (x6 : Int32) (x7 : Int32) (σ : aSt) : Option (Unit × aSt) := k40 x1 x2 x4 x6 (x7 + 1) σ
set_option maxRecDepth 20000 in
set_option maxHeartbeats 4000000 in
theorem TJ_X3_fill_147 (xs : Nat → Int32) (L : Nat) (N : Nat) (k40 : Nat → Int32 → Nat → Int32 → Int32 → aSt → Option (Unit × aSt)) (hk40 : ∀ (x1 : Nat) (x2 : Int32) (x4 : Nat) (x6 : Int32) (x7 : Int32) (d3 : Value) (d5 : Value) (d8 : Value) (σ : aSt) (q : Unit × aSt), k40 x1 x2 x4 x6 x7 σ = some q → Gr σ → isLy x1 → isSale x4 → Ev xs L 19 40 [.ref 193, .ref x1, .int x2, d3, .ref x4, d5, .int x6, .int x7, d8] [] σ (wV q.1) q.2 ∧ Gr q.2) (x1 : Nat) (x2 : Int32) (x4 : Nat) (x6 : Int32) (x7 : Int32) (d3 : Value) (d5 : Value) (d8 : Value) (σ : aSt) (q : Unit × aSt) (h : J_X3_fill_147 N k40 x1 x2 x4 x6 x7 σ = some q) (hG : Gr σ) (hx1 : isLy x1) (hx4 : isSale x4) : Ev xs L 19 147 [.ref 193, .ref x1, .int x2, d3, .ref x4, d5, .int x6, .int x7, d8] [] σ (wV q.1) q.2 ∧ Gr q.2 := by
  have h : (k40 x1 x2 x4 x6 (x7 + 1) σ) = some q := h
  refine ev_a (fun he => ev_iinc (ls' := [.ref 193, .ref x1, .int x2, d3, .ref x4, d5, .int x6, .int (x7 + 1), d8]) rfl rfl rfl (Nat.le_of_ble_eq_true rfl) rfl he) ?_
  refine ev_a (fun he => ev_goto rfl he) ?_
  exact hk40 x1 x2 x4 x6 (x7 + 1) (d3) (d5) (d8) σ q h hG hx1 hx4
def H_X3_fill_40 (N : Nat) : Nat → Nat → Int32 → Nat → Int32 → Int32 → aSt → Option (Unit × aSt)
  | 0, _, _, _, _, _, _ => none
  | n + 1, x1, x2, x4, x6, x7, σ => if (aI σ 193 2) ≤ x7 then some ((), σ) else cO (¬ (x7 < 0 ∨ 25 ≤ x7.toNatClampNeg)) (cO (¬ (x6 < 0 ∨ 61 ≤ x6.toNatClampNeg)) (cO (¬ (x7 < 0 ∨ 24 ≤ x7.toNatClampNeg)) (if x6 < (aI σ 195 x7.toNatClampNeg) then J_X3_fill_147 N (H_X3_fill_40 N n) x1 x2 x4 x6 x7 σ else cO (¬ ((x7 + 1) < 0 ∨ 25 ≤ (x7 + 1).toNatClampNeg)) (cO (¬ (x7 < 0 ∨ 24 ≤ x7.toNatClampNeg)) (cO (¬ ((x6 - (aI σ 195 x7.toNatClampNeg)) < 0 ∨ 61 ≤ (x6 - (aI σ 195 x7.toNatClampNeg)).toNatClampNeg)) (if ((aI σ (197 + (x7 + 1).toNatClampNeg) (x6 - (aI σ 195 x7.toNatClampNeg)).toNatClampNeg) + 1) ≠ (aI σ (197 + x7.toNatClampNeg) x6.toNatClampNeg) then J_X3_fill_147 N (H_X3_fill_40 N n) x1 x2 x4 x6 x7 σ else cO (¬ (x7 < 0 ∨ 24 ≤ x7.toNatClampNeg)) (cO (¬ (x7 < 0 ∨ 24 ≤ x7.toNatClampNeg)) (cO (¬ (x7 < 0 ∨ 24 ≤ x7.toNatClampNeg)) (oB (F_X4_put N x1 (aI σ 194 x7.toNatClampNeg) (aI σ 195 x7.toNatClampNeg) σ) fun y13 σ14 => cO (¬ (x7 < 0 ∨ 24 ≤ x7.toNatClampNeg)) (cO (¬ ((aI σ14 194 x7.toNatClampNeg) < 0 ∨ 24 ≤ (aI σ14 194 x7.toNatClampNeg).toNatClampNeg)) (lt (aWI σ14 (x4 + 4 + (aI σ14 194 x7.toNatClampNeg).toNatClampNeg) 7 x2) fun σ20 => J_X3_fill_147 N (H_X3_fill_40 N n) x1 x2 x4 (x6 - (aI σ 195 x7.toNatClampNeg)) x7 σ20)))))))))))
set_option maxRecDepth 20000 in
set_option maxHeartbeats 4000000 in
theorem TH_X3_fill_40 (xs : Nat → Int32) (L : Nat) (N : Nat) : ∀ (n : Nat) (x1 : Nat) (x2 : Int32) (x4 : Nat) (x6 : Int32) (x7 : Int32) (d3 : Value) (d5 : Value) (d8 : Value) (σ : aSt) (q : Unit × aSt), H_X3_fill_40 N n x1 x2 x4 x6 x7 σ = some q → Gr σ → isLy x1 → isSale x4 → Ev xs L 19 40 [.ref 193, .ref x1, .int x2, d3, .ref x4, d5, .int x6, .int x7, d8] [] σ (wV q.1) q.2 ∧ Gr q.2 := by
  intro n
  induction n with
  | zero =>
    intro x1 x2 x4 x6 x7 d3 d5 d8 σ q h hG hx1 hx4
    exact absurd (show (none : Option (Unit × aSt)) = some q from h) (by simp)
  | succ n ih =>
    intro x1 x2 x4 x6 x7 d3 d5 d8 σ q h hG hx1 hx4
    have hk40 : ∀ (x1 : Nat) (x2 : Int32) (x4 : Nat) (x6 : Int32) (x7 : Int32) (d3 : Value) (d5 : Value) (d8 : Value) (σ : aSt) (q : Unit × aSt), H_X3_fill_40 N n x1 x2 x4 x6 x7 σ = some q → Gr σ → isLy x1 → isSale x4 → Ev xs L 19 40 [.ref 193, .ref x1, .int x2, d3, .ref x4, d5, .int x6, .int x7, d8] [] σ (wV q.1) q.2 ∧ Gr q.2 := ih
    have h : (if (aI σ 193 2) ≤ x7 then some ((), σ) else cO (¬ (x7 < 0 ∨ 25 ≤ x7.toNatClampNeg)) (cO (¬ (x6 < 0 ∨ 61 ≤ x6.toNatClampNeg)) (cO (¬ (x7 < 0 ∨ 24 ≤ x7.toNatClampNeg)) (if x6 < (aI σ 195 x7.toNatClampNeg) then J_X3_fill_147 N (H_X3_fill_40 N n) x1 x2 x4 x6 x7 σ else cO (¬ ((x7 + 1) < 0 ∨ 25 ≤ (x7 + 1).toNatClampNeg)) (cO (¬ (x7 < 0 ∨ 24 ≤ x7.toNatClampNeg)) (cO (¬ ((x6 - (aI σ 195 x7.toNatClampNeg)) < 0 ∨ 61 ≤ (x6 - (aI σ 195 x7.toNatClampNeg)).toNatClampNeg)) (if ((aI σ (197 + (x7 + 1).toNatClampNeg) (x6 - (aI σ 195 x7.toNatClampNeg)).toNatClampNeg) + 1) ≠ (aI σ (197 + x7.toNatClampNeg) x6.toNatClampNeg) then J_X3_fill_147 N (H_X3_fill_40 N n) x1 x2 x4 x6 x7 σ else cO (¬ (x7 < 0 ∨ 24 ≤ x7.toNatClampNeg)) (cO (¬ (x7 < 0 ∨ 24 ≤ x7.toNatClampNeg)) (cO (¬ (x7 < 0 ∨ 24 ≤ x7.toNatClampNeg)) (oB (F_X4_put N x1 (aI σ 194 x7.toNatClampNeg) (aI σ 195 x7.toNatClampNeg) σ) fun y13 σ14 => cO (¬ (x7 < 0 ∨ 24 ≤ x7.toNatClampNeg)) (cO (¬ ((aI σ14 194 x7.toNatClampNeg) < 0 ∨ 24 ≤ (aI σ14 194 x7.toNatClampNeg).toNatClampNeg)) (lt (aWI σ14 (x4 + 4 + (aI σ14 194 x7.toNatClampNeg).toNatClampNeg) 7 x2) fun σ20 => J_X3_fill_147 N (H_X3_fill_40 N n) x1 x2 x4 (x6 - (aI σ 195 x7.toNatClampNeg)) x7 σ20)))))))))))) = some q := h
    refine ev_a (fun he => ev_iload rfl rfl he) ?_
    refine ev_a (fun he => ev_aload rfl rfl he) ?_
    refine ev_a (fun he => ev_getI rfl (gr_ob (n := 4) hG rfl) he) ?_
    refine ev_b (c := (aI σ 193 2) ≤ x7) (fun ht hf => ev_cge rfl ht hf) (fun hc1 => ?_) (fun hc1 => ?_)
    · rw [if_pos hc1] at h
      cases h
      exact ⟨ev_retV rfl, hG⟩
    · rw [if_neg hc1] at h
      refine ev_a (fun he => ev_aload rfl rfl he) ?_
      refine ev_a (fun he => ev_getR rfl (gr_ob (n := 4) hG rfl) (gr_p (a := 193) (k := 3) (b := 196) hG rfl) he) ?_
      refine ev_a (fun he => ev_iload rfl rfl he) ?_
      obtain ⟨hc2, h⟩ := cO_inv h
      refine ev_a (fun he => ev_aldR rfl (gr_ar hG rfl) (by decide) hc2 (gr_p hG (el_Fw hc2).1) he) ?_
      refine ev_a (fun he => ev_iload rfl rfl he) ?_
      obtain ⟨hc3, h⟩ := cO_inv h
      refine ev_a (fun he => ev_aldI (k := x6.toNatClampNeg) rfl (gr_ar hG (el_Fw hc2).2) hc3 rfl he) ?_
      refine ev_a (fun he => ev_istore (ls' := [.ref 193, .ref x1, .int x2, d3, .ref x4, d5, .int x6, .int x7, .int (aI σ (197 + x7.toNatClampNeg) x6.toNatClampNeg)]) rfl (Nat.le_of_ble_eq_true rfl) rfl he) ?_
      refine ev_a (fun he => ev_aload rfl rfl he) ?_
      refine ev_a (fun he => ev_getR rfl (gr_ob (n := 4) hG rfl) (gr_p (a := 193) (k := 1) (b := 195) hG rfl) he) ?_
      refine ev_a (fun he => ev_iload rfl rfl he) ?_
      obtain ⟨hc4, h⟩ := cO_inv h
      refine ev_a (fun he => ev_aldI (k := x7.toNatClampNeg) rfl (gr_ar hG rfl) hc4 rfl he) ?_
      refine ev_a (fun he => ev_iload rfl rfl he) ?_
      refine ev_b (c := x6 < (aI σ 195 x7.toNatClampNeg)) (fun ht hf => ev_cgt rfl ht hf) (fun hc5 => ?_) (fun hc5 => ?_)
      · rw [if_pos hc5] at h
        exact TJ_X3_fill_147 xs L N (H_X3_fill_40 N n) hk40 x1 x2 x4 x6 x7 (d3) (d5) (.int (aI σ (197 + x7.toNatClampNeg) x6.toNatClampNeg)) σ q h hG hx1 hx4
      · rw [if_neg hc5] at h
        refine ev_a (fun he => ev_aload rfl rfl he) ?_
        refine ev_a (fun he => ev_getR rfl (gr_ob (n := 4) hG rfl) (gr_p (a := 193) (k := 3) (b := 196) hG rfl) he) ?_
        refine ev_a (fun he => ev_iload rfl rfl he) ?_
        refine ev_a (fun he => ev_push rfl he) ?_
        refine ev_a (fun he => ev_bin (z := x7 + 1) rfl rfl he) ?_
        obtain ⟨hc6, h⟩ := cO_inv h
        refine ev_a (fun he => ev_aldR rfl (gr_ar hG rfl) (by decide) hc6 (gr_p hG (el_Fw hc6).1) he) ?_
        refine ev_a (fun he => ev_iload rfl rfl he) ?_
        refine ev_a (fun he => ev_aload rfl rfl he) ?_
        refine ev_a (fun he => ev_getR rfl (gr_ob (n := 4) hG rfl) (gr_p (a := 193) (k := 1) (b := 195) hG rfl) he) ?_
        refine ev_a (fun he => ev_iload rfl rfl he) ?_
        obtain ⟨hc7, h⟩ := cO_inv h
        refine ev_a (fun he => ev_aldI (k := x7.toNatClampNeg) rfl (gr_ar hG rfl) hc7 rfl he) ?_
        refine ev_a (fun he => ev_bin (z := x6 - (aI σ 195 x7.toNatClampNeg)) rfl rfl he) ?_
        obtain ⟨hc8, h⟩ := cO_inv h
        refine ev_a (fun he => ev_aldI (k := (x6 - (aI σ 195 x7.toNatClampNeg)).toNatClampNeg) rfl (gr_ar hG (el_Fw hc6).2) hc8 rfl he) ?_
        refine ev_a (fun he => ev_push rfl he) ?_
        refine ev_a (fun he => ev_bin (z := (aI σ (197 + (x7 + 1).toNatClampNeg) (x6 - (aI σ 195 x7.toNatClampNeg)).toNatClampNeg) + 1) rfl rfl he) ?_
        refine ev_a (fun he => ev_iload rfl rfl he) ?_
        refine ev_b (c := ((aI σ (197 + (x7 + 1).toNatClampNeg) (x6 - (aI σ 195 x7.toNatClampNeg)).toNatClampNeg) + 1) ≠ (aI σ (197 + x7.toNatClampNeg) x6.toNatClampNeg)) (fun ht hf => ev_cne rfl ht hf) (fun hc9 => ?_) (fun hc9 => ?_)
        · rw [if_pos hc9] at h
          exact TJ_X3_fill_147 xs L N (H_X3_fill_40 N n) hk40 x1 x2 x4 x6 x7 (d3) (d5) (.int (aI σ (197 + x7.toNatClampNeg) x6.toNatClampNeg)) σ q h hG hx1 hx4
        · rw [if_neg hc9] at h
          refine ev_a (fun he => ev_iload rfl rfl he) ?_
          refine ev_a (fun he => ev_aload rfl rfl he) ?_
          refine ev_a (fun he => ev_getR rfl (gr_ob (n := 4) hG rfl) (gr_p (a := 193) (k := 1) (b := 195) hG rfl) he) ?_
          refine ev_a (fun he => ev_iload rfl rfl he) ?_
          obtain ⟨hc10, h⟩ := cO_inv h
          refine ev_a (fun he => ev_aldI (k := x7.toNatClampNeg) rfl (gr_ar hG rfl) hc10 rfl he) ?_
          refine ev_a (fun he => ev_bin (z := x6 - (aI σ 195 x7.toNatClampNeg)) rfl rfl he) ?_
          refine ev_a (fun he => ev_istore (ls' := [.ref 193, .ref x1, .int x2, d3, .ref x4, (aKl d5), .int (x6 - (aI σ 195 x7.toNatClampNeg)), .int x7, .int (aI σ (197 + x7.toNatClampNeg) x6.toNatClampNeg)]) rfl (Nat.le_of_ble_eq_true rfl) rfl he) ?_
          refine ev_a (fun he => ev_aload rfl rfl he) ?_
          refine ev_a (fun he => ev_aload rfl rfl he) ?_
          refine ev_a (fun he => ev_getR rfl (gr_ob (n := 4) hG rfl) (gr_p (a := 193) (k := 0) (b := 194) hG rfl) he) ?_
          refine ev_a (fun he => ev_iload rfl rfl he) ?_
          obtain ⟨hc11, h⟩ := cO_inv h
          refine ev_a (fun he => ev_aldI (k := x7.toNatClampNeg) rfl (gr_ar hG rfl) hc11 rfl he) ?_
          refine ev_a (fun he => ev_aload rfl rfl he) ?_
          refine ev_a (fun he => ev_getR rfl (gr_ob (n := 4) hG rfl) (gr_p (a := 193) (k := 1) (b := 195) hG rfl) he) ?_
          refine ev_a (fun he => ev_iload rfl rfl he) ?_
          obtain ⟨hc12, h⟩ := cO_inv h
          refine ev_a (fun he => ev_aldI (k := x7.toNatClampNeg) rfl (gr_ar hG rfl) hc12 rfl he) ?_
          obtain ⟨y13, σ14, h15, h⟩ := oB_inv h
          obtain ⟨c16, hG17⟩ := T_X4_put xs L N x1 (aI σ 194 x7.toNatClampNeg) (aI σ 195 x7.toNatClampNeg) σ (y13, σ14) h15 hG hx1
          refine ev_a (fun he => ev_callV (as := [.int (aI σ 194 x7.toNatClampNeg), .int (aI σ 195 x7.toNatClampNeg)]) rfl (gr_ob (n := 6) hG (sh_Ly0 hx1)) rfl rfl rfl (Nat.le_of_ble_eq_true rfl) (Nat.le_of_ble_eq_true rfl) c16 he) ?_
          refine ev_a (fun he => ev_aload rfl rfl he) ?_
          refine ev_a (fun he => ev_getR rfl (gr_ob (n := 9) hG17 (sh_Sale0 hx4)) (gr_p hG17 (gf_Sale1 hx4)) he) ?_
          refine ev_a (fun he => ev_aload rfl rfl he) ?_
          refine ev_a (fun he => ev_getR rfl (gr_ob (n := 4) hG17 rfl) (gr_p (a := 193) (k := 0) (b := 194) hG17 rfl) he) ?_
          refine ev_a (fun he => ev_iload rfl rfl he) ?_
          obtain ⟨hc18, h⟩ := cO_inv h
          refine ev_a (fun he => ev_aldI (k := x7.toNatClampNeg) rfl (gr_ar hG17 rfl) hc18 rfl he) ?_
          obtain ⟨hc19, h⟩ := cO_inv h
          refine ev_a (fun he => ev_aldR rfl (gr_ar hG17 (sh_Sale1 hx4)) (by decide) hc19 (gr_p hG17 (el_Ou hx4 hc19).1) he) ?_
          refine ev_a (fun he => ev_iload rfl rfl he) ?_
          obtain ⟨σ20, e21, h⟩ := lt_inv h
          have hG22 : Gr σ20 := gr_wi e21 hG17
          refine ev_a (fun he => ev_putI rfl (gr_ob (n := 8) hG17 (sh_Ou0 (el_Ou hx4 hc19).2)) e21 he) ?_
          exact TJ_X3_fill_147 xs L N (H_X3_fill_40 N n) hk40 x1 x2 x4 (x6 - (aI σ 195 x7.toNatClampNeg)) x7 (d3) ((aKl d5)) (.int (aI σ (197 + x7.toNatClampNeg) x6.toNatClampNeg)) σ20 q h hG22 hx1 hx4
def F_X3_fill (N : Nat) (x1 : Nat) (x2 : Int32) (x4 : Nat) (σ : aSt) : Option (Unit × aSt) := oB (F_J9_min_7cf53 N (aI σ x1 1) 60 σ) fun y23 σ24 => oB (F_X3_gather N x1 x4 σ24) fun y28 σ29 => oB (F_X3_countFewest N y23 σ29) fun y33 σ34 => oB (F_X4_empty N x1 σ34) fun y38 σ39 => oB (F_X3_mostBoxes N y23 σ39) fun y43 σ44 => H_X3_fill_40 N N x1 x2 x4 y43 0 σ44
set_option maxRecDepth 20000 in
set_option maxHeartbeats 4000000 in
theorem T_X3_fill (xs : Nat → Int32) (L : Nat) (N : Nat) (x1 : Nat) (x2 : Int32) (x4 : Nat) (σ : aSt) (q : Unit × aSt) (h : F_X3_fill N x1 x2 x4 σ = some q) (hG : Gr σ) (hx1 : isLy x1) (hx4 : isSale x4) : Cal xs L 19 [.ref 193, .ref x1, .int x2, .ref 11, .ref x4] σ (wV q.1) q.2 ∧ Gr q.2 := by
  have h : (oB (F_J9_min_7cf53 N (aI σ x1 1) 60 σ) fun y23 σ24 => oB (F_X3_gather N x1 x4 σ24) fun y28 σ29 => oB (F_X3_countFewest N y23 σ29) fun y33 σ34 => oB (F_X4_empty N x1 σ34) fun y38 σ39 => oB (F_X3_mostBoxes N y23 σ39) fun y43 σ44 => H_X3_fill_40 N N x1 x2 x4 y43 0 σ44) = some q := h
  show Ev xs L 19 0 [.ref 193, .ref x1, .int x2, .ref 11, .ref x4, aU, aU, aU, aU] [] σ (wV q.1) q.2 ∧ Gr q.2
  refine ev_a (fun he => ev_aload rfl rfl he) ?_
  refine ev_a (fun he => ev_getI rfl (gr_ob (n := 6) hG (sh_Ly0 hx1)) he) ?_
  refine ev_a (fun he => ev_push rfl he) ?_
  obtain ⟨y23, σ24, h25, h⟩ := oB_inv h
  obtain ⟨c26, hG27⟩ := T_J9_min_7cf53 xs L N (aI σ x1 1) 60 σ (y23, σ24) h25 hG
  refine ev_a (fun he => ev_callS (as := [.int (aI σ x1 1), .int 60]) rfl rfl rfl rfl (Nat.le_of_ble_eq_true rfl) (Nat.le_of_ble_eq_true rfl) c26 he) ?_
  refine ev_a (fun he => ev_istore (ls' := [.ref 193, .ref x1, .int x2, .ref 11, .ref x4, .int y23, aU, aU, aU]) rfl (Nat.le_of_ble_eq_true rfl) rfl he) ?_
  refine ev_a (fun he => ev_aload rfl rfl he) ?_
  refine ev_a (fun he => ev_aload rfl rfl he) ?_
  refine ev_a (fun he => ev_aload rfl rfl he) ?_
  refine ev_a (fun he => ev_aload rfl rfl he) ?_
  obtain ⟨y28, σ29, h30, h⟩ := oB_inv h
  obtain ⟨c31, hG32⟩ := T_X3_gather xs L N x1 x4 σ24 (y28, σ29) h30 hG27 hx1 hx4
  refine ev_a (fun he => ev_callV (as := [.ref x1, .ref 11, .ref x4]) rfl (gr_ob (n := 4) hG27 rfl) rfl rfl rfl (Nat.le_of_ble_eq_true rfl) (Nat.le_of_ble_eq_true rfl) c31 he) ?_
  refine ev_a (fun he => ev_aload rfl rfl he) ?_
  refine ev_a (fun he => ev_iload rfl rfl he) ?_
  obtain ⟨y33, σ34, h35, h⟩ := oB_inv h
  obtain ⟨c36, hG37⟩ := T_X3_countFewest xs L N y23 σ29 (y33, σ34) h35 hG32
  refine ev_a (fun he => ev_callV (as := [.int y23]) rfl (gr_ob (n := 4) hG32 rfl) rfl rfl rfl (Nat.le_of_ble_eq_true rfl) (Nat.le_of_ble_eq_true rfl) c36 he) ?_
  refine ev_a (fun he => ev_aload rfl rfl he) ?_
  obtain ⟨y38, σ39, h40, h⟩ := oB_inv h
  obtain ⟨c41, hG42⟩ := T_X4_empty xs L N x1 σ34 (y38, σ39) h40 hG37 hx1
  refine ev_a (fun he => ev_callV (as := []) rfl (gr_ob (n := 6) hG37 (sh_Ly0 hx1)) rfl rfl rfl (Nat.le_of_ble_eq_true rfl) (Nat.le_of_ble_eq_true rfl) c41 he) ?_
  refine ev_a (fun he => ev_aload rfl rfl he) ?_
  refine ev_a (fun he => ev_iload rfl rfl he) ?_
  obtain ⟨y43, σ44, h45, h⟩ := oB_inv h
  obtain ⟨c46, hG47⟩ := T_X3_mostBoxes xs L N y23 σ39 (y43, σ44) h45 hG42
  refine ev_a (fun he => ev_callV (as := [.int y23]) rfl (gr_ob (n := 4) hG42 rfl) rfl rfl rfl (Nat.le_of_ble_eq_true rfl) (Nat.le_of_ble_eq_true rfl) c46 he) ?_
  refine ev_a (fun he => ev_istore (ls' := [.ref 193, .ref x1, .int x2, .ref 11, .ref x4, .int y23, .int y43, aU, aU]) rfl (Nat.le_of_ble_eq_true rfl) rfl he) ?_
  refine ev_a (fun he => ev_push rfl he) ?_
  refine ev_a (fun he => ev_istore (ls' := [.ref 193, .ref x1, .int x2, .ref 11, .ref x4, .int y23, .int y43, .int 0, aU]) rfl (Nat.le_of_ble_eq_true rfl) rfl he) ?_
  exact TH_X3_fill_40 xs L N N x1 x2 x4 y43 0 (.ref 11) (.int y23) (aU) σ44 q h hG47 hx1 hx4
def F_X4_order (N : Nat) (x0 : Nat) (x1 : Int32) (x2 : Int32) (x3 : Int32) (σ : aSt) : Option (Unit × aSt) := lt (aWI σ x0 0 x1) fun σ1 => lt (aWI σ1 x0 1 x2) fun σ4 => lt (aWI σ4 x0 2 x3) fun σ7 => some ((), σ7)
set_option maxRecDepth 20000 in
set_option maxHeartbeats 4000000 in
theorem T_X4_order (xs : Nat → Int32) (L : Nat) (N : Nat) (x0 : Nat) (x1 : Int32) (x2 : Int32) (x3 : Int32) (σ : aSt) (q : Unit × aSt) (h : F_X4_order N x0 x1 x2 x3 σ = some q) (hG : Gr σ) (hx0 : isLy x0) : Cal xs L 24 [.ref x0, .int x1, .int x2, .int x3] σ (wV q.1) q.2 ∧ Gr q.2 := by
  have h : (lt (aWI σ x0 0 x1) fun σ1 => lt (aWI σ1 x0 1 x2) fun σ4 => lt (aWI σ4 x0 2 x3) fun σ7 => some ((), σ7)) = some q := h
  show Ev xs L 24 0 [.ref x0, .int x1, .int x2, .int x3] [] σ (wV q.1) q.2 ∧ Gr q.2
  refine ev_a (fun he => ev_aload rfl rfl he) ?_
  refine ev_a (fun he => ev_iload rfl rfl he) ?_
  obtain ⟨σ1, e2, h⟩ := lt_inv h
  have hG3 : Gr σ1 := gr_wi e2 hG
  refine ev_a (fun he => ev_putI rfl (gr_ob (n := 6) hG (sh_Ly0 hx0)) e2 he) ?_
  refine ev_a (fun he => ev_aload rfl rfl he) ?_
  refine ev_a (fun he => ev_iload rfl rfl he) ?_
  obtain ⟨σ4, e5, h⟩ := lt_inv h
  have hG6 : Gr σ4 := gr_wi e5 hG3
  refine ev_a (fun he => ev_putI rfl (gr_ob (n := 6) hG3 (sh_Ly0 hx0)) e5 he) ?_
  refine ev_a (fun he => ev_aload rfl rfl he) ?_
  refine ev_a (fun he => ev_iload rfl rfl he) ?_
  obtain ⟨σ7, e8, h⟩ := lt_inv h
  have hG9 : Gr σ7 := gr_wi e8 hG6
  refine ev_a (fun he => ev_putI rfl (gr_ob (n := 6) hG6 (sh_Ly0 hx0)) e8 he) ?_
  cases h
  exact ⟨ev_retV rfl, hG9⟩
def J_X4_tell_27 (N : Nat) (x0 : Nat) (x1 : Int32) (σ : aSt) : Option (Int32 × aSt) := if x1 = 0 then (some (aI σ x0 3, σ)) else if x1 = 1 then (some (aI σ x0 5, σ)) else some ((-1), σ)
set_option maxRecDepth 20000 in
set_option maxHeartbeats 4000000 in
theorem TJ_X4_tell_27 (xs : Nat → Int32) (L : Nat) (N : Nat) (x0 : Nat) (x1 : Int32) (σ : aSt) (q : Int32 × aSt) (h : J_X4_tell_27 N x0 x1 σ = some q) (hG : Gr σ) (hx0 : isLy x0) : Ev xs L 27 27 [.ref x0, .int x1] [] σ (wI q.1) q.2 ∧ Gr q.2 := by
  have h : (if x1 = 0 then (some (aI σ x0 3, σ)) else if x1 = 1 then (some (aI σ x0 5, σ)) else some ((-1), σ)) = some q := h
  refine ev_a (fun he => ev_iload rfl rfl he) ?_
  by_cases hz1 : x1 = 0
  · rw [if_pos hz1] at h
    refine ev_a (fun he => ev_look (t := 56) rfl (by rw [hz1]; decide) he) ?_
    refine ev_a (fun he => ev_aload rfl rfl he) ?_
    refine ev_a (fun he => ev_getI rfl (gr_ob (n := 6) hG (sh_Ly0 hx0)) he) ?_
    cases h
    exact ⟨ev_retI rfl, hG⟩
  · rw [if_neg hz1] at h
    by_cases hz2 : x1 = 1
    · rw [if_pos hz2] at h
      refine ev_a (fun he => ev_look (t := 61) rfl (by rw [hz2]; decide) he) ?_
      refine ev_a (fun he => ev_aload rfl rfl he) ?_
      refine ev_a (fun he => ev_getI rfl (gr_ob (n := 6) hG (sh_Ly0 hx0)) he) ?_
      cases h
      exact ⟨ev_retI rfl, hG⟩
    · rw [if_neg hz2] at h
      refine ev_a (fun he => ev_look (t := 66) rfl (by rw [lv_osw (a := 0) hz1 (by decide), lv_osw (a := 1) hz2 (by decide)]; rfl) he) ?_
      refine ev_a (fun he => ev_push rfl he) ?_
      cases h
      exact ⟨ev_retI rfl, hG⟩
def F_X4_tell (N : Nat) (x0 : Nat) (x1 : Int32) (σ : aSt) : Option (Int32 × aSt) := if x1 < 10 then J_X4_tell_27 N x0 x1 σ else if (aI σ x0 5) ≤ (x1 - 10) then J_X4_tell_27 N x0 x1 σ else cO (¬ ((x1 - 10) < 0 ∨ 24 ≤ (x1 - 10).toNatClampNeg)) (some (aI σ (x0 + 1) (x1 - 10).toNatClampNeg, σ))
set_option maxRecDepth 20000 in
set_option maxHeartbeats 4000000 in
theorem T_X4_tell (xs : Nat → Int32) (L : Nat) (N : Nat) (x0 : Nat) (x1 : Int32) (σ : aSt) (q : Int32 × aSt) (h : F_X4_tell N x0 x1 σ = some q) (hG : Gr σ) (hx0 : isLy x0) : Cal xs L 27 [.ref x0, .int x1] σ (wI q.1) q.2 ∧ Gr q.2 := by
  have h : (if x1 < 10 then J_X4_tell_27 N x0 x1 σ else if (aI σ x0 5) ≤ (x1 - 10) then J_X4_tell_27 N x0 x1 σ else cO (¬ ((x1 - 10) < 0 ∨ 24 ≤ (x1 - 10).toNatClampNeg)) (some (aI σ (x0 + 1) (x1 - 10).toNatClampNeg, σ))) = some q := h
  show Ev xs L 27 0 [.ref x0, .int x1] [] σ (wI q.1) q.2 ∧ Gr q.2
  refine ev_a (fun he => ev_iload rfl rfl he) ?_
  refine ev_a (fun he => ev_push rfl he) ?_
  refine ev_b (c := x1 < 10) (fun ht hf => ev_clt rfl ht hf) (fun hc3 => ?_) (fun hc3 => ?_)
  · rw [if_pos hc3] at h
    exact TJ_X4_tell_27 xs L N x0 x1 σ q h hG hx0
  · rw [if_neg hc3] at h
    refine ev_a (fun he => ev_iload rfl rfl he) ?_
    refine ev_a (fun he => ev_push rfl he) ?_
    refine ev_a (fun he => ev_bin (z := x1 - 10) rfl rfl he) ?_
    refine ev_a (fun he => ev_aload rfl rfl he) ?_
    refine ev_a (fun he => ev_getI rfl (gr_ob (n := 6) hG (sh_Ly0 hx0)) he) ?_
    refine ev_b (c := (aI σ x0 5) ≤ (x1 - 10)) (fun ht hf => ev_cge rfl ht hf) (fun hc4 => ?_) (fun hc4 => ?_)
    · rw [if_pos hc4] at h
      exact TJ_X4_tell_27 xs L N x0 x1 σ q h hG hx0
    · rw [if_neg hc4] at h
      refine ev_a (fun he => ev_aload rfl rfl he) ?_
      refine ev_a (fun he => ev_getR rfl (gr_ob (n := 6) hG (sh_Ly0 hx0)) (gr_p hG (gf_Ly4 hx0)) he) ?_
      refine ev_a (fun he => ev_iload rfl rfl he) ?_
      refine ev_a (fun he => ev_push rfl he) ?_
      refine ev_a (fun he => ev_bin (z := x1 - 10) rfl rfl he) ?_
      obtain ⟨hc5, h⟩ := cO_inv h
      refine ev_a (fun he => ev_aldI (k := (x1 - 10).toNatClampNeg) rfl (gr_ar hG (sh_Ly1 hx0)) hc5 rfl he) ?_
      cases h
      exact ⟨ev_retI rfl, hG⟩
def J_X6_isSold_13 (N : Nat) (s0 : Int32) (σ : aSt) : Option (Int32 × aSt) := cO (vp_nar .boolean s0 = s0) (some (s0, σ))
set_option maxRecDepth 20000 in
set_option maxHeartbeats 4000000 in
theorem TJ_X6_isSold_13 (xs : Nat → Int32) (L : Nat) (N : Nat) (s0 : Int32) (d0 : Value) (σ : aSt) (q : Int32 × aSt) (h : J_X6_isSold_13 N s0 σ = some q) (hG : Gr σ) : Ev xs L 30 13 [d0] [.int s0] σ (wI q.1) q.2 ∧ Gr q.2 := by
  have h : (cO (vp_nar .boolean s0 = s0) (some (s0, σ))) = some q := h
  obtain ⟨hc1, h⟩ := cO_inv h
  cases h
  exact ⟨ev_retZ rfl hc1, hG⟩
def F_X6_isSold (N : Nat) (x0 : Nat) (σ : aSt) : Option (Int32 × aSt) := if (aI σ x0 0) = ((-1)) then J_X6_isSold_13 N 0 σ else J_X6_isSold_13 N 1 σ
set_option maxRecDepth 20000 in
set_option maxHeartbeats 4000000 in
theorem T_X6_isSold (xs : Nat → Int32) (L : Nat) (N : Nat) (x0 : Nat) (σ : aSt) (q : Int32 × aSt) (h : F_X6_isSold N x0 σ = some q) (hG : Gr σ) (hx0 : isOu x0) : Cal xs L 30 [.ref x0] σ (wI q.1) q.2 ∧ Gr q.2 := by
  have h : (if (aI σ x0 0) = ((-1)) then J_X6_isSold_13 N 0 σ else J_X6_isSold_13 N 1 σ) = some q := h
  show Ev xs L 30 0 [.ref x0] [] σ (wI q.1) q.2 ∧ Gr q.2
  refine ev_a (fun he => ev_aload rfl rfl he) ?_
  refine ev_a (fun he => ev_getI rfl (gr_ob (n := 8) hG (sh_Ou0 hx0)) he) ?_
  refine ev_a (fun he => ev_push rfl he) ?_
  refine ev_b (c := (aI σ x0 0) = ((-1))) (fun ht hf => ev_ceq rfl ht hf) (fun hc2 => ?_) (fun hc2 => ?_)
  · rw [if_pos hc2] at h
    refine ev_a (fun he => ev_push rfl he) ?_
    exact TJ_X6_isSold_13 xs L N 0 (.ref x0) σ q h hG
  · rw [if_neg hc2] at h
    refine ev_a (fun he => ev_push rfl he) ?_
    refine ev_a (fun he => ev_goto rfl he) ?_
    exact TJ_X6_isSold_13 xs L N 1 (.ref x0) σ q h hG
def F_X6_tell (N : Nat) (x0 : Nat) (x1 : Int32) (σ : aSt) : Option (Int32 × aSt) := if x1 = 0 then (some (aI σ x0 0, σ)) else if x1 = 1 then (some (aI σ x0 1, σ)) else if x1 = 2 then (some (aI σ x0 2, σ)) else if x1 = 3 then (some (aI σ x0 3, σ)) else if x1 = 4 then (some (aI σ x0 4, σ)) else if x1 = 5 then (some (aI σ x0 5, σ)) else if x1 = 6 then (some (aI σ x0 6, σ)) else if x1 = 7 then (some (aI σ x0 7, σ)) else some ((-1), σ)
set_option maxRecDepth 20000 in
set_option maxHeartbeats 4000000 in
theorem T_X6_tell (xs : Nat → Int32) (L : Nat) (N : Nat) (x0 : Nat) (x1 : Int32) (σ : aSt) (q : Int32 × aSt) (h : F_X6_tell N x0 x1 σ = some q) (hG : Gr σ) (hx0 : isOu x0) : Cal xs L 31 [.ref x0, .int x1] σ (wI q.1) q.2 ∧ Gr q.2 := by
  have h : (if x1 = 0 then (some (aI σ x0 0, σ)) else if x1 = 1 then (some (aI σ x0 1, σ)) else if x1 = 2 then (some (aI σ x0 2, σ)) else if x1 = 3 then (some (aI σ x0 3, σ)) else if x1 = 4 then (some (aI σ x0 4, σ)) else if x1 = 5 then (some (aI σ x0 5, σ)) else if x1 = 6 then (some (aI σ x0 6, σ)) else if x1 = 7 then (some (aI σ x0 7, σ)) else some ((-1), σ)) = some q := h
  show Ev xs L 31 0 [.ref x0, .int x1] [] σ (wI q.1) q.2 ∧ Gr q.2
  refine ev_a (fun he => ev_iload rfl rfl he) ?_
  by_cases hz1 : x1 = 0
  · rw [if_pos hz1] at h
    refine ev_a (fun he => ev_tab (t := 48) rfl (by rw [hz1]; decide) he) ?_
    refine ev_a (fun he => ev_aload rfl rfl he) ?_
    refine ev_a (fun he => ev_getI rfl (gr_ob (n := 8) hG (sh_Ou0 hx0)) he) ?_
    cases h
    exact ⟨ev_retI rfl, hG⟩
  · rw [if_neg hz1] at h
    by_cases hz2 : x1 = 1
    · rw [if_pos hz2] at h
      refine ev_a (fun he => ev_tab (t := 53) rfl (by rw [hz2]; decide) he) ?_
      refine ev_a (fun he => ev_aload rfl rfl he) ?_
      refine ev_a (fun he => ev_getI rfl (gr_ob (n := 8) hG (sh_Ou0 hx0)) he) ?_
      cases h
      exact ⟨ev_retI rfl, hG⟩
    · rw [if_neg hz2] at h
      by_cases hz3 : x1 = 2
      · rw [if_pos hz3] at h
        refine ev_a (fun he => ev_tab (t := 58) rfl (by rw [hz3]; decide) he) ?_
        refine ev_a (fun he => ev_aload rfl rfl he) ?_
        refine ev_a (fun he => ev_getI rfl (gr_ob (n := 8) hG (sh_Ou0 hx0)) he) ?_
        cases h
        exact ⟨ev_retI rfl, hG⟩
      · rw [if_neg hz3] at h
        by_cases hz4 : x1 = 3
        · rw [if_pos hz4] at h
          refine ev_a (fun he => ev_tab (t := 63) rfl (by rw [hz4]; decide) he) ?_
          refine ev_a (fun he => ev_aload rfl rfl he) ?_
          refine ev_a (fun he => ev_getI rfl (gr_ob (n := 8) hG (sh_Ou0 hx0)) he) ?_
          cases h
          exact ⟨ev_retI rfl, hG⟩
        · rw [if_neg hz4] at h
          by_cases hz5 : x1 = 4
          · rw [if_pos hz5] at h
            refine ev_a (fun he => ev_tab (t := 68) rfl (by rw [hz5]; decide) he) ?_
            refine ev_a (fun he => ev_aload rfl rfl he) ?_
            refine ev_a (fun he => ev_getI rfl (gr_ob (n := 8) hG (sh_Ou0 hx0)) he) ?_
            cases h
            exact ⟨ev_retI rfl, hG⟩
          · rw [if_neg hz5] at h
            by_cases hz6 : x1 = 5
            · rw [if_pos hz6] at h
              refine ev_a (fun he => ev_tab (t := 73) rfl (by rw [hz6]; decide) he) ?_
              refine ev_a (fun he => ev_aload rfl rfl he) ?_
              refine ev_a (fun he => ev_getI rfl (gr_ob (n := 8) hG (sh_Ou0 hx0)) he) ?_
              cases h
              exact ⟨ev_retI rfl, hG⟩
            · rw [if_neg hz6] at h
              by_cases hz7 : x1 = 6
              · rw [if_pos hz7] at h
                refine ev_a (fun he => ev_tab (t := 78) rfl (by rw [hz7]; decide) he) ?_
                refine ev_a (fun he => ev_aload rfl rfl he) ?_
                refine ev_a (fun he => ev_getI rfl (gr_ob (n := 8) hG (sh_Ou0 hx0)) he) ?_
                cases h
                exact ⟨ev_retI rfl, hG⟩
              · rw [if_neg hz7] at h
                by_cases hz8 : x1 = 7
                · rw [if_pos hz8] at h
                  refine ev_a (fun he => ev_tab (t := 83) rfl (by rw [hz8]; decide) he) ?_
                  refine ev_a (fun he => ev_aload rfl rfl he) ?_
                  refine ev_a (fun he => ev_getI rfl (gr_ob (n := 8) hG (sh_Ou0 hx0)) he) ?_
                  cases h
                  exact ⟨ev_retI rfl, hG⟩
                · rw [if_neg hz8] at h
                  refine ev_a (fun he => ev_tab (t := 88) rfl (aSwt_d [0, 1, 2, 3, 4, 5, 6, 7] rfl (by decide) (List.forall_mem_cons.mpr ⟨hz1, (List.forall_mem_cons.mpr ⟨hz2, (List.forall_mem_cons.mpr ⟨hz3, (List.forall_mem_cons.mpr ⟨hz4, (List.forall_mem_cons.mpr ⟨hz5, (List.forall_mem_cons.mpr ⟨hz6, (List.forall_mem_cons.mpr ⟨hz7, (List.forall_mem_cons.mpr ⟨hz8, (fun _ hm => absurd hm List.not_mem_nil)⟩)⟩)⟩)⟩)⟩)⟩)⟩)⟩)) he) ?_
                  refine ev_a (fun he => ev_push rfl he) ?_
                  cases h
                  exact ⟨ev_retI rfl, hG⟩
