section OPS7
variable {N : Nat} {σ : aSt} {f : pln} {len : Nat} {D : HD} {Y : LY} {s : Bool} {dr : Nat → SR} {st le : Nat → Nat} {ha : Nat → Nat → Nat} {sp nl : Nat → Nat} {rt : Nat → List Ru} {lw : Nat → Nat}
/-- a lot's part of the day's sums -/
def gW (D : HD) (dr : Nat → SR) (w l : Nat) : Int32 := match (dr l).1 with
  | some _ => if w = 0 then n32 ((dr l).2.1 * lo D 3 l) else if w = 1 then n32 ((dr l).2.1 * lo D 3 l) - n32 (brP D l (dr l)) else if w = 4 then n32 (lo D 3 l) else n32 0
  | none => if w = 2 then n32 (brP D l (dr l)) else if w = 3 then n32 1 else n32 0
set_option maxHeartbeats 400000 in
theorem op_sum (hN : 1000 ≤ N) (x1 : Int32) (hI : IVx σ f len D Y s dr st le ha sp nl rt lw) : Same σ (F_X11_sum N x1) (F_X12_sum N x1) f := by
  have hI0 := hI
  obtain ⟨t, h2, h3, h4, h5, h6, h7, h8⟩ := hI
  have n24 := h3.1.1
  have m6 := h3.1.2.1
  have e11 := h3.2.1.1
  have e37 := h3.2.2.1
  have e8 := h5.2.1
  have e53 := h5.2.2
  have fail : ∀ {R : Option (Int32 × aSt)}, Ok R (fun z σ2 => z = -1 ∧ σ2 = mk σ f) → Ok R (fun z σ2 => (-1 : Int32) = z ∧ ∃ f' W, σ2 = mk σ f' ∧ IV σ f' W) := fun h => ok_mono h (fun z σ2 q => ⟨q.1.symm, by rw [q.2]; exact IV_mk hI0⟩)
  refine same_q (fun Q hQ => ?_)
  unfold F_X11_sum J_X11_sum_19 F_X9_total J_X9_total_9
  cases s with
  | false =>
    with_reducible refine ok_ipi ?_ ?_
    · exact e8
    refine ok_some (hQ _ _ (fail ?_))
    unfold F_X12_sum J_X12_sum_16
    with_reducible refine ok_ipi ?_ ?_
    · exact e53
    exact ok_some ⟨rfl, rfl⟩
  | true =>
    with_reducible refine ok_ini ?_ ?_
    · rw [mk_I, e8]
      decide
    refine ok_oB ?_
    by_cases hv : ¬ x1 < 0 ∧ x1 ≤ 4
    · obtain ⟨w, -, hw, rfl⟩ := rng_le (x := x1) (a := 0) (b := 4) (by omega) (by omega) hv.1 (Int32.not_lt.mpr hv.2)
      have xl : ∀ n l, hn D < n + l → l ≤ hn D → Ok (H_X9_total_15 N n 101 (n32 w) (sumI (gW D dr w) l) (n32 l) (mk σ f)) (fun y σ' => y = sumI (gW D dr w) (hn D) ∧ σ' = mk σ f) := by
        intro n
        induction n with
        | zero => intro l h1 h2; omega
        | succ n ih =>
          intro l h1 h2
          rw [H_X9_total_15]
          by_cases hl : hn D ≤ l
          · with_reducible refine ok_ipi (by first | assumption | omega | (simp (disch := omega) only [n32_of, neg_n32_1, n32_nat, n32_lt, n32_le, n32_eq, n32_add, n32_sub, n32_mul, n32_m1, m1_n32, n32_addm1, m1_lt, lt_m1, m1_le, le_m1, m1_add1, ofNat_n32, u2_self, u2_n, mk_I, mk_T, ne_eq, not_true_eq_false, not_false_eq_true, e11]; first | done | omega)) ?_
            rw [show l = hn D by omega]
            exact ok_some ⟨rfl, rfl⟩
          · with_reducible refine ok_ini (by first | assumption | omega | (simp (disch := omega) only [n32_of, neg_n32_1, n32_nat, n32_lt, n32_le, n32_eq, n32_add, n32_sub, n32_mul, n32_m1, m1_n32, n32_addm1, m1_lt, lt_m1, m1_le, le_m1, m1_add1, ofNat_n32, u2_self, u2_n, mk_I, mk_T, ne_eq, not_true_eq_false, not_false_eq_true, e11]; first | done | omega)) ?_
            with_reducible refine ok_cOi (by first | assumption | omega | (simp (disch := omega) only [n32_of, neg_n32_1, n32_nat, n32_lt, n32_le, n32_eq, n32_add, n32_sub, n32_mul, n32_m1, m1_n32, n32_addm1, m1_lt, lt_m1, m1_le, le_m1, m1_add1, ofNat_n32, u2_self, u2_n, mk_I, mk_T, ne_eq, not_true_eq_false, not_false_eq_true, ]; first | done | omega)) ?_
            have dl := h3.1.2.2.1 l (by omega)
            have od := (h7 rfl).1 l (by omega)
            have c3 : f (23 + l) 3 = n32 (lo D 3 l) := h3.2.1.2.2.1 3 l (by omega) (by omega)
            obtain ⟨w0, w1, -, -, -, -, w6, -⟩ := ((h7 rfl).2.1 l (by omega)).1
            have nx := ih (l + 1) (by omega) (by omega)
            rw [sumI] at nx
            unfold J_X9_total_54
            rw [s_isSold]
            refine ok_oB (ok_some ?_)
            unfold F_X9_partOfSold F_X9_partOfWithdrawn J_X9_partOfSold_78
            cases hb : (dr l).1 with
            | none =>
              rw [hb] at w0
              have hs : ¬ aI (mk σ f) (101 + 4 + (n32 l).toNatClampNeg) 0 ≠ -1 := by
                simp (disch := omega) only [n32_of, neg_n32_1, n32_nat, n32_lt, n32_le, n32_eq, n32_add, n32_sub, n32_mul, n32_m1, m1_n32, n32_addm1, m1_lt, lt_m1, m1_le, le_m1, m1_add1, ofNat_n32, u2_self, u2_n, mk_I, mk_T, w0, oI_n]
                exact fun q => q rfl
              rw [bI_f hs]
              have ge : gW D dr w l = if w = 2 then n32 (brP D l (dr l)) else if w = 3 then n32 1 else n32 0 := by unfold gW; rw [hb]
              rw [ge] at nx
              refine ok_ipi rfl (ok_oB ?_)
              by_cases k2 : w = 2
              · subst k2
                rw [if_pos rfl] at nx
                repeat (first | with_reducible refine ok_W ?_ | with_reducible refine ok_cOi (by first | assumption | omega | (simp (disch := omega) only [n32_of, neg_n32_1, n32_nat, n32_lt, n32_le, n32_eq, n32_add, n32_sub, n32_mul, n32_m1, m1_n32, n32_addm1, m1_lt, lt_m1, m1_le, le_m1, m1_add1, ofNat_n32, u2_self, u2_n, mk_I, mk_T, ne_eq, not_true_eq_false, not_false_eq_true, ]; first | done | omega)) ?_ | with_reducible refine ok_ipi (by first | assumption | omega | (simp (disch := omega) only [n32_of, neg_n32_1, n32_nat, n32_lt, n32_le, n32_eq, n32_add, n32_sub, n32_mul, n32_m1, m1_n32, n32_addm1, m1_lt, lt_m1, m1_le, le_m1, m1_add1, ofNat_n32, u2_self, u2_n, mk_I, mk_T, ne_eq, not_true_eq_false, not_false_eq_true, ]; first | done | omega)) ?_ | with_reducible refine ok_ini (by first | assumption | omega | (simp (disch := omega) only [n32_of, neg_n32_1, n32_nat, n32_lt, n32_le, n32_eq, n32_add, n32_sub, n32_mul, n32_m1, m1_n32, n32_addm1, m1_lt, lt_m1, m1_le, le_m1, m1_add1, ofNat_n32, u2_self, u2_n, mk_I, mk_T, ne_eq, not_true_eq_false, not_false_eq_true, ]; first | done | omega)) ?_)
                refine ok_some ?_
                simp (disch := omega) only [n32_of, neg_n32_1, n32_nat, n32_lt, n32_le, n32_eq, n32_add, n32_sub, n32_mul, n32_m1, m1_n32, n32_addm1, m1_lt, lt_m1, m1_le, le_m1, m1_add1, ofNat_n32, u2_self, u2_n, mk_I, mk_T, w6]
                exact nx
              · rw [if_neg k2] at nx
                with_reducible refine ok_ini (by first | assumption | omega | (simp (disch := omega) only [n32_of, neg_n32_1, n32_nat, n32_lt, n32_le, n32_eq, n32_add, n32_sub, n32_mul, n32_m1, m1_n32, n32_addm1, m1_lt, lt_m1, m1_le, le_m1, m1_add1, ofNat_n32, u2_self, u2_n, mk_I, mk_T, ne_eq, not_true_eq_false, not_false_eq_true, ]; first | done | omega)) ?_
                by_cases k3 : w = 3
                · subst k3
                  rw [if_pos rfl] at nx
                  repeat (first | with_reducible refine ok_W ?_ | with_reducible refine ok_cOi (by first | assumption | omega | (simp (disch := omega) only [n32_of, neg_n32_1, n32_nat, n32_lt, n32_le, n32_eq, n32_add, n32_sub, n32_mul, n32_m1, m1_n32, n32_addm1, m1_lt, lt_m1, m1_le, le_m1, m1_add1, ofNat_n32, u2_self, u2_n, mk_I, mk_T, ne_eq, not_true_eq_false, not_false_eq_true, ]; first | done | omega)) ?_ | with_reducible refine ok_ipi (by first | assumption | omega | (simp (disch := omega) only [n32_of, neg_n32_1, n32_nat, n32_lt, n32_le, n32_eq, n32_add, n32_sub, n32_mul, n32_m1, m1_n32, n32_addm1, m1_lt, lt_m1, m1_le, le_m1, m1_add1, ofNat_n32, u2_self, u2_n, mk_I, mk_T, ne_eq, not_true_eq_false, not_false_eq_true, ]; first | done | omega)) ?_ | with_reducible refine ok_ini (by first | assumption | omega | (simp (disch := omega) only [n32_of, neg_n32_1, n32_nat, n32_lt, n32_le, n32_eq, n32_add, n32_sub, n32_mul, n32_m1, m1_n32, n32_addm1, m1_lt, lt_m1, m1_le, le_m1, m1_add1, ofNat_n32, u2_self, u2_n, mk_I, mk_T, ne_eq, not_true_eq_false, not_false_eq_true, ]; first | done | omega)) ?_)
                  refine ok_some ?_
                  simp (disch := omega) only [n32_of, neg_n32_1, n32_nat, n32_lt, n32_le, n32_eq, n32_add, n32_sub, n32_mul, n32_m1, m1_n32, n32_addm1, m1_lt, lt_m1, m1_le, le_m1, m1_add1, ofNat_n32, u2_self, u2_n, mk_I, mk_T, ]
                  exact nx
                · rw [if_neg k3] at nx
                  with_reducible refine ok_ini (by first | assumption | omega | (simp (disch := omega) only [n32_of, neg_n32_1, n32_nat, n32_lt, n32_le, n32_eq, n32_add, n32_sub, n32_mul, n32_m1, m1_n32, n32_addm1, m1_lt, lt_m1, m1_le, le_m1, m1_add1, ofNat_n32, u2_self, u2_n, mk_I, mk_T, ne_eq, not_true_eq_false, not_false_eq_true, ]; first | done | omega)) ?_
                  refine ok_some ?_
                  simp (disch := omega) only [n32_of, neg_n32_1, n32_nat, n32_lt, n32_le, n32_eq, n32_add, n32_sub, n32_mul, n32_m1, m1_n32, n32_addm1, m1_lt, lt_m1, m1_le, le_m1, m1_add1, ofNat_n32, u2_self, u2_n, mk_I, mk_T, ]
                  exact nx
            | some b' =>
              rw [hb] at w0
              have hb6 := od.1 b' hb
              have hs : aI (mk σ f) (101 + 4 + (n32 l).toNatClampNeg) 0 ≠ -1 := by
                simp (disch := omega) only [n32_of, neg_n32_1, n32_nat, n32_lt, n32_le, n32_eq, n32_add, n32_sub, n32_mul, n32_m1, m1_n32, n32_addm1, m1_lt, lt_m1, m1_le, le_m1, m1_add1, ofNat_n32, u2_self, u2_n, mk_I, mk_T, w0, oI_s]
                exact fun q => by rw [n32_m1 (by omega)] at q; exact q
              rw [bI_t hs]
              have ge : gW D dr w l = if w = 0 then n32 ((dr l).2.1 * lo D 3 l) else if w = 1 then n32 ((dr l).2.1 * lo D 3 l) - n32 (brP D l (dr l)) else if w = 4 then n32 (lo D 3 l) else n32 0 := by unfold gW; rw [hb]
              rw [ge] at nx
              refine ok_ini (by decide) (ok_oB ?_)
              with_reducible refine ok_cOi (by first | assumption | omega | (simp (disch := omega) only [n32_of, neg_n32_1, n32_nat, n32_lt, n32_le, n32_eq, n32_add, n32_sub, n32_mul, n32_m1, m1_n32, n32_addm1, m1_lt, lt_m1, m1_le, le_m1, m1_add1, ofNat_n32, u2_self, u2_n, mk_I, mk_T, ne_eq, not_true_eq_false, not_false_eq_true, ]; first | done | omega)) ?_
              with_reducible refine ok_cOi (by first | assumption | omega | (simp (disch := omega) only [n32_of, neg_n32_1, n32_nat, n32_lt, n32_le, n32_eq, n32_add, n32_sub, n32_mul, n32_m1, m1_n32, n32_addm1, m1_lt, lt_m1, m1_le, le_m1, m1_add1, ofNat_n32, u2_self, u2_n, mk_I, mk_T, ne_eq, not_true_eq_false, not_false_eq_true, ]; first | done | omega)) ?_
              by_cases k0 : w = 0
              · subst k0
                rw [if_pos rfl] at nx
                repeat (first | with_reducible refine ok_W ?_ | with_reducible refine ok_cOi (by first | assumption | omega | (simp (disch := omega) only [n32_of, neg_n32_1, n32_nat, n32_lt, n32_le, n32_eq, n32_add, n32_sub, n32_mul, n32_m1, m1_n32, n32_addm1, m1_lt, lt_m1, m1_le, le_m1, m1_add1, ofNat_n32, u2_self, u2_n, mk_I, mk_T, ne_eq, not_true_eq_false, not_false_eq_true, ]; first | done | omega)) ?_ | with_reducible refine ok_ipi (by first | assumption | omega | (simp (disch := omega) only [n32_of, neg_n32_1, n32_nat, n32_lt, n32_le, n32_eq, n32_add, n32_sub, n32_mul, n32_m1, m1_n32, n32_addm1, m1_lt, lt_m1, m1_le, le_m1, m1_add1, ofNat_n32, u2_self, u2_n, mk_I, mk_T, ne_eq, not_true_eq_false, not_false_eq_true, ]; first | done | omega)) ?_ | with_reducible refine ok_ini (by first | assumption | omega | (simp (disch := omega) only [n32_of, neg_n32_1, n32_nat, n32_lt, n32_le, n32_eq, n32_add, n32_sub, n32_mul, n32_m1, m1_n32, n32_addm1, m1_lt, lt_m1, m1_le, le_m1, m1_add1, ofNat_n32, u2_self, u2_n, mk_I, mk_T, ne_eq, not_true_eq_false, not_false_eq_true, ]; first | done | omega)) ?_)
                refine ok_some ?_
                simp (disch := omega) only [n32_of, neg_n32_1, n32_nat, n32_lt, n32_le, n32_eq, n32_add, n32_sub, n32_mul, n32_m1, m1_n32, n32_addm1, m1_lt, lt_m1, m1_le, le_m1, m1_add1, ofNat_n32, u2_self, u2_n, mk_I, mk_T, w1, c3]
                exact nx
              · rw [if_neg k0] at nx
                with_reducible refine ok_ini (by first | assumption | omega | (simp (disch := omega) only [n32_of, neg_n32_1, n32_nat, n32_lt, n32_le, n32_eq, n32_add, n32_sub, n32_mul, n32_m1, m1_n32, n32_addm1, m1_lt, lt_m1, m1_le, le_m1, m1_add1, ofNat_n32, u2_self, u2_n, mk_I, mk_T, ne_eq, not_true_eq_false, not_false_eq_true, ]; first | done | omega)) ?_
                by_cases k1 : w = 1
                · subst k1
                  rw [if_pos rfl] at nx
                  repeat (first | with_reducible refine ok_W ?_ | with_reducible refine ok_cOi (by first | assumption | omega | (simp (disch := omega) only [n32_of, neg_n32_1, n32_nat, n32_lt, n32_le, n32_eq, n32_add, n32_sub, n32_mul, n32_m1, m1_n32, n32_addm1, m1_lt, lt_m1, m1_le, le_m1, m1_add1, ofNat_n32, u2_self, u2_n, mk_I, mk_T, ne_eq, not_true_eq_false, not_false_eq_true, ]; first | done | omega)) ?_ | with_reducible refine ok_ipi (by first | assumption | omega | (simp (disch := omega) only [n32_of, neg_n32_1, n32_nat, n32_lt, n32_le, n32_eq, n32_add, n32_sub, n32_mul, n32_m1, m1_n32, n32_addm1, m1_lt, lt_m1, m1_le, le_m1, m1_add1, ofNat_n32, u2_self, u2_n, mk_I, mk_T, ne_eq, not_true_eq_false, not_false_eq_true, ]; first | done | omega)) ?_ | with_reducible refine ok_ini (by first | assumption | omega | (simp (disch := omega) only [n32_of, neg_n32_1, n32_nat, n32_lt, n32_le, n32_eq, n32_add, n32_sub, n32_mul, n32_m1, m1_n32, n32_addm1, m1_lt, lt_m1, m1_le, le_m1, m1_add1, ofNat_n32, u2_self, u2_n, mk_I, mk_T, ne_eq, not_true_eq_false, not_false_eq_true, ]; first | done | omega)) ?_)
                  refine ok_some ?_
                  simp (disch := omega) only [n32_of, neg_n32_1, n32_nat, n32_lt, n32_le, n32_eq, n32_add, n32_sub, n32_mul, n32_m1, m1_n32, n32_addm1, m1_lt, lt_m1, m1_le, le_m1, m1_add1, ofNat_n32, u2_self, u2_n, mk_I, mk_T, w1, c3, w6]
                  exact nx
                · rw [if_neg k1] at nx
                  with_reducible refine ok_ini (by first | assumption | omega | (simp (disch := omega) only [n32_of, neg_n32_1, n32_nat, n32_lt, n32_le, n32_eq, n32_add, n32_sub, n32_mul, n32_m1, m1_n32, n32_addm1, m1_lt, lt_m1, m1_le, le_m1, m1_add1, ofNat_n32, u2_self, u2_n, mk_I, mk_T, ne_eq, not_true_eq_false, not_false_eq_true, ]; first | done | omega)) ?_
                  by_cases k4 : w = 4
                  · subst k4
                    rw [if_pos rfl] at nx
                    repeat (first | with_reducible refine ok_W ?_ | with_reducible refine ok_cOi (by first | assumption | omega | (simp (disch := omega) only [n32_of, neg_n32_1, n32_nat, n32_lt, n32_le, n32_eq, n32_add, n32_sub, n32_mul, n32_m1, m1_n32, n32_addm1, m1_lt, lt_m1, m1_le, le_m1, m1_add1, ofNat_n32, u2_self, u2_n, mk_I, mk_T, ne_eq, not_true_eq_false, not_false_eq_true, ]; first | done | omega)) ?_ | with_reducible refine ok_ipi (by first | assumption | omega | (simp (disch := omega) only [n32_of, neg_n32_1, n32_nat, n32_lt, n32_le, n32_eq, n32_add, n32_sub, n32_mul, n32_m1, m1_n32, n32_addm1, m1_lt, lt_m1, m1_le, le_m1, m1_add1, ofNat_n32, u2_self, u2_n, mk_I, mk_T, ne_eq, not_true_eq_false, not_false_eq_true, ]; first | done | omega)) ?_ | with_reducible refine ok_ini (by first | assumption | omega | (simp (disch := omega) only [n32_of, neg_n32_1, n32_nat, n32_lt, n32_le, n32_eq, n32_add, n32_sub, n32_mul, n32_m1, m1_n32, n32_addm1, m1_lt, lt_m1, m1_le, le_m1, m1_add1, ofNat_n32, u2_self, u2_n, mk_I, mk_T, ne_eq, not_true_eq_false, not_false_eq_true, ]; first | done | omega)) ?_)
                    refine ok_some ?_
                    simp (disch := omega) only [n32_of, neg_n32_1, n32_nat, n32_lt, n32_le, n32_eq, n32_add, n32_sub, n32_mul, n32_m1, m1_n32, n32_addm1, m1_lt, lt_m1, m1_le, le_m1, m1_add1, ofNat_n32, u2_self, u2_n, mk_I, mk_T, c3]
                    exact nx
                  · rw [if_neg k4] at nx
                    with_reducible refine ok_ini (by first | assumption | omega | (simp (disch := omega) only [n32_of, neg_n32_1, n32_nat, n32_lt, n32_le, n32_eq, n32_add, n32_sub, n32_mul, n32_m1, m1_n32, n32_addm1, m1_lt, lt_m1, m1_le, le_m1, m1_add1, ofNat_n32, u2_self, u2_n, mk_I, mk_T, ne_eq, not_true_eq_false, not_false_eq_true, ]; first | done | omega)) ?_
                    refine ok_some ?_
                    simp (disch := omega) only [n32_of, neg_n32_1, n32_nat, n32_lt, n32_le, n32_eq, n32_add, n32_sub, n32_mul, n32_m1, m1_n32, n32_addm1, m1_lt, lt_m1, m1_le, le_m1, m1_add1, ofNat_n32, u2_self, u2_n, mk_I, mk_T, ]
                    exact nx
      have rl : ∀ n l, hn D < n + l → l ≤ hn D → Ok (H_X12_sum_22 N n (n32 w) (sumI (gW D dr w) l) (n32 l) (mk σ f)) (fun y σ' => y = sumI (gW D dr w) (hn D) ∧ σ' = mk σ f) := by
        intro n
        induction n with
        | zero => intro l h1 h2; omega
        | succ n ih =>
          intro l h1 h2
          rw [H_X12_sum_22]
          by_cases hl : hn D ≤ l
          · with_reducible refine ok_ipi (by first | assumption | omega | (simp (disch := omega) only [n32_of, neg_n32_1, n32_nat, n32_lt, n32_le, n32_eq, n32_add, n32_sub, n32_mul, n32_m1, m1_n32, n32_addm1, m1_lt, lt_m1, m1_le, le_m1, m1_add1, ofNat_n32, u2_self, u2_n, mk_I, mk_T, ne_eq, not_true_eq_false, not_false_eq_true, e37]; first | done | omega)) ?_
            rw [show l = hn D by omega]
            exact ok_some ⟨rfl, rfl⟩
          · with_reducible refine ok_ini (by first | assumption | omega | (simp (disch := omega) only [n32_of, neg_n32_1, n32_nat, n32_lt, n32_le, n32_eq, n32_add, n32_sub, n32_mul, n32_m1, m1_n32, n32_addm1, m1_lt, lt_m1, m1_le, le_m1, m1_add1, ofNat_n32, u2_self, u2_n, mk_I, mk_T, ne_eq, not_true_eq_false, not_false_eq_true, e37]; first | done | omega)) ?_
            with_reducible refine ok_cOi (by first | assumption | omega | (simp (disch := omega) only [n32_of, neg_n32_1, n32_nat, n32_lt, n32_le, n32_eq, n32_add, n32_sub, n32_mul, n32_m1, m1_n32, n32_addm1, m1_lt, lt_m1, m1_le, le_m1, m1_add1, ofNat_n32, u2_self, u2_n, mk_I, mk_T, ne_eq, not_true_eq_false, not_false_eq_true, ]; first | done | omega)) ?_
            with_reducible refine ok_cOi (by first | assumption | omega | (simp (disch := omega) only [n32_of, neg_n32_1, n32_nat, n32_lt, n32_le, n32_eq, n32_add, n32_sub, n32_mul, n32_m1, m1_n32, n32_addm1, m1_lt, lt_m1, m1_le, le_m1, m1_add1, ofNat_n32, u2_self, u2_n, mk_I, mk_T, ne_eq, not_true_eq_false, not_false_eq_true, ]; first | done | omega)) ?_
            with_reducible refine ok_cOi (by first | assumption | omega | (simp (disch := omega) only [n32_of, neg_n32_1, n32_nat, n32_lt, n32_le, n32_eq, n32_add, n32_sub, n32_mul, n32_m1, m1_n32, n32_addm1, m1_lt, lt_m1, m1_le, le_m1, m1_add1, ofNat_n32, u2_self, u2_n, mk_I, mk_T, ne_eq, not_true_eq_false, not_false_eq_true, ]; first | done | omega)) ?_
            have dl := h3.1.2.2.1 l (by omega)
            have od := (h7 rfl).1 l (by omega)
            have c3 : f 262 l = n32 (lo D 3 l) := h3.2.2.2.2.1 3 l (by omega) (by omega)
            obtain ⟨-, c0, c1, -, -, -, -, c6⟩ := (h7 rfl).2.1 l (by omega)
            have nx := ih (l + 1) (by omega) (by omega)
            rw [sumI] at nx
            unfold J_X12_sum_127 J_X12_sum_80 J_X12_sum_129
            cases hb : (dr l).1 with
            | none =>
              rw [hb] at c0
              have ge : gW D dr w l = if w = 2 then n32 (brP D l (dr l)) else if w = 3 then n32 1 else n32 0 := by unfold gW; rw [hb]
              rw [ge] at nx
              with_reducible refine ok_ini (by first | assumption | omega | (simp (disch := omega) only [n32_of, neg_n32_1, n32_nat, n32_lt, n32_le, n32_eq, n32_add, n32_sub, n32_mul, n32_m1, m1_n32, n32_addm1, m1_lt, lt_m1, m1_le, le_m1, m1_add1, ofNat_n32, u2_self, u2_n, mk_I, mk_T, ne_eq, not_true_eq_false, not_false_eq_true, c0, oI_n]; first | done | omega)) ?_
              by_cases k2 : w = 2
              · subst k2
                rw [if_pos rfl] at nx
                repeat (first | with_reducible refine ok_W ?_ | with_reducible refine ok_cOi (by first | assumption | omega | (simp (disch := omega) only [n32_of, neg_n32_1, n32_nat, n32_lt, n32_le, n32_eq, n32_add, n32_sub, n32_mul, n32_m1, m1_n32, n32_addm1, m1_lt, lt_m1, m1_le, le_m1, m1_add1, ofNat_n32, u2_self, u2_n, mk_I, mk_T, ne_eq, not_true_eq_false, not_false_eq_true, ]; first | done | omega)) ?_ | with_reducible refine ok_ipi (by first | assumption | omega | (simp (disch := omega) only [n32_of, neg_n32_1, n32_nat, n32_lt, n32_le, n32_eq, n32_add, n32_sub, n32_mul, n32_m1, m1_n32, n32_addm1, m1_lt, lt_m1, m1_le, le_m1, m1_add1, ofNat_n32, u2_self, u2_n, mk_I, mk_T, ne_eq, not_true_eq_false, not_false_eq_true, ]; first | done | omega)) ?_ | with_reducible refine ok_ini (by first | assumption | omega | (simp (disch := omega) only [n32_of, neg_n32_1, n32_nat, n32_lt, n32_le, n32_eq, n32_add, n32_sub, n32_mul, n32_m1, m1_n32, n32_addm1, m1_lt, lt_m1, m1_le, le_m1, m1_add1, ofNat_n32, u2_self, u2_n, mk_I, mk_T, ne_eq, not_true_eq_false, not_false_eq_true, ]; first | done | omega)) ?_)
                simp (disch := omega) only [n32_of, neg_n32_1, n32_nat, n32_lt, n32_le, n32_eq, n32_add, n32_sub, n32_mul, n32_m1, m1_n32, n32_addm1, m1_lt, lt_m1, m1_le, le_m1, m1_add1, ofNat_n32, u2_self, u2_n, mk_I, mk_T, c6]
                exact nx
              · rw [if_neg k2] at nx
                with_reducible refine ok_ipi (by first | assumption | omega | (simp (disch := omega) only [n32_of, neg_n32_1, n32_nat, n32_lt, n32_le, n32_eq, n32_add, n32_sub, n32_mul, n32_m1, m1_n32, n32_addm1, m1_lt, lt_m1, m1_le, le_m1, m1_add1, ofNat_n32, u2_self, u2_n, mk_I, mk_T, ne_eq, not_true_eq_false, not_false_eq_true, ]; first | done | omega)) ?_
                by_cases k3 : w = 3
                · subst k3
                  rw [if_pos rfl] at nx
                  repeat (first | with_reducible refine ok_W ?_ | with_reducible refine ok_cOi (by first | assumption | omega | (simp (disch := omega) only [n32_of, neg_n32_1, n32_nat, n32_lt, n32_le, n32_eq, n32_add, n32_sub, n32_mul, n32_m1, m1_n32, n32_addm1, m1_lt, lt_m1, m1_le, le_m1, m1_add1, ofNat_n32, u2_self, u2_n, mk_I, mk_T, ne_eq, not_true_eq_false, not_false_eq_true, ]; first | done | omega)) ?_ | with_reducible refine ok_ipi (by first | assumption | omega | (simp (disch := omega) only [n32_of, neg_n32_1, n32_nat, n32_lt, n32_le, n32_eq, n32_add, n32_sub, n32_mul, n32_m1, m1_n32, n32_addm1, m1_lt, lt_m1, m1_le, le_m1, m1_add1, ofNat_n32, u2_self, u2_n, mk_I, mk_T, ne_eq, not_true_eq_false, not_false_eq_true, ]; first | done | omega)) ?_ | with_reducible refine ok_ini (by first | assumption | omega | (simp (disch := omega) only [n32_of, neg_n32_1, n32_nat, n32_lt, n32_le, n32_eq, n32_add, n32_sub, n32_mul, n32_m1, m1_n32, n32_addm1, m1_lt, lt_m1, m1_le, le_m1, m1_add1, ofNat_n32, u2_self, u2_n, mk_I, mk_T, ne_eq, not_true_eq_false, not_false_eq_true, ]; first | done | omega)) ?_)
                  simp (disch := omega) only [n32_of, neg_n32_1, n32_nat, n32_lt, n32_le, n32_eq, n32_add, n32_sub, n32_mul, n32_m1, m1_n32, n32_addm1, m1_lt, lt_m1, m1_le, le_m1, m1_add1, ofNat_n32, u2_self, u2_n, mk_I, mk_T, ]
                  exact nx
                · rw [if_neg k3] at nx
                  with_reducible refine ok_ipi (by first | assumption | omega | (simp (disch := omega) only [n32_of, neg_n32_1, n32_nat, n32_lt, n32_le, n32_eq, n32_add, n32_sub, n32_mul, n32_m1, m1_n32, n32_addm1, m1_lt, lt_m1, m1_le, le_m1, m1_add1, ofNat_n32, u2_self, u2_n, mk_I, mk_T, ne_eq, not_true_eq_false, not_false_eq_true, ]; first | done | omega)) ?_
                  simp (disch := omega) only [n32_of, neg_n32_1, n32_nat, n32_lt, n32_le, n32_eq, n32_add, n32_sub, n32_mul, n32_m1, m1_n32, n32_addm1, m1_lt, lt_m1, m1_le, le_m1, m1_add1, ofNat_n32, u2_self, u2_n, mk_I, mk_T, ]
                  exact nx
            | some b' =>
              rw [hb] at c0
              have hb6 := od.1 b' hb
              have ge : gW D dr w l = if w = 0 then n32 ((dr l).2.1 * lo D 3 l) else if w = 1 then n32 ((dr l).2.1 * lo D 3 l) - n32 (brP D l (dr l)) else if w = 4 then n32 (lo D 3 l) else n32 0 := by unfold gW; rw [hb]
              rw [ge] at nx
              with_reducible refine ok_ipi (by first | assumption | omega | (simp (disch := omega) only [n32_of, neg_n32_1, n32_nat, n32_lt, n32_le, n32_eq, n32_add, n32_sub, n32_mul, n32_m1, m1_n32, n32_addm1, m1_lt, lt_m1, m1_le, le_m1, m1_add1, ofNat_n32, u2_self, u2_n, mk_I, mk_T, ne_eq, not_true_eq_false, not_false_eq_true, c0, oI_s]; first | done | omega)) ?_
              by_cases k0 : w = 0
              · subst k0
                rw [if_pos rfl] at nx
                repeat (first | with_reducible refine ok_W ?_ | with_reducible refine ok_cOi (by first | assumption | omega | (simp (disch := omega) only [n32_of, neg_n32_1, n32_nat, n32_lt, n32_le, n32_eq, n32_add, n32_sub, n32_mul, n32_m1, m1_n32, n32_addm1, m1_lt, lt_m1, m1_le, le_m1, m1_add1, ofNat_n32, u2_self, u2_n, mk_I, mk_T, ne_eq, not_true_eq_false, not_false_eq_true, ]; first | done | omega)) ?_ | with_reducible refine ok_ipi (by first | assumption | omega | (simp (disch := omega) only [n32_of, neg_n32_1, n32_nat, n32_lt, n32_le, n32_eq, n32_add, n32_sub, n32_mul, n32_m1, m1_n32, n32_addm1, m1_lt, lt_m1, m1_le, le_m1, m1_add1, ofNat_n32, u2_self, u2_n, mk_I, mk_T, ne_eq, not_true_eq_false, not_false_eq_true, ]; first | done | omega)) ?_ | with_reducible refine ok_ini (by first | assumption | omega | (simp (disch := omega) only [n32_of, neg_n32_1, n32_nat, n32_lt, n32_le, n32_eq, n32_add, n32_sub, n32_mul, n32_m1, m1_n32, n32_addm1, m1_lt, lt_m1, m1_le, le_m1, m1_add1, ofNat_n32, u2_self, u2_n, mk_I, mk_T, ne_eq, not_true_eq_false, not_false_eq_true, ]; first | done | omega)) ?_)
                simp (disch := omega) only [n32_of, neg_n32_1, n32_nat, n32_lt, n32_le, n32_eq, n32_add, n32_sub, n32_mul, n32_m1, m1_n32, n32_addm1, m1_lt, lt_m1, m1_le, le_m1, m1_add1, ofNat_n32, u2_self, u2_n, mk_I, mk_T, c1, c3]
                exact nx
              · rw [if_neg k0] at nx
                with_reducible refine ok_ipi (by first | assumption | omega | (simp (disch := omega) only [n32_of, neg_n32_1, n32_nat, n32_lt, n32_le, n32_eq, n32_add, n32_sub, n32_mul, n32_m1, m1_n32, n32_addm1, m1_lt, lt_m1, m1_le, le_m1, m1_add1, ofNat_n32, u2_self, u2_n, mk_I, mk_T, ne_eq, not_true_eq_false, not_false_eq_true, ]; first | done | omega)) ?_
                by_cases k1 : w = 1
                · subst k1
                  rw [if_pos rfl] at nx
                  repeat (first | with_reducible refine ok_W ?_ | with_reducible refine ok_cOi (by first | assumption | omega | (simp (disch := omega) only [n32_of, neg_n32_1, n32_nat, n32_lt, n32_le, n32_eq, n32_add, n32_sub, n32_mul, n32_m1, m1_n32, n32_addm1, m1_lt, lt_m1, m1_le, le_m1, m1_add1, ofNat_n32, u2_self, u2_n, mk_I, mk_T, ne_eq, not_true_eq_false, not_false_eq_true, ]; first | done | omega)) ?_ | with_reducible refine ok_ipi (by first | assumption | omega | (simp (disch := omega) only [n32_of, neg_n32_1, n32_nat, n32_lt, n32_le, n32_eq, n32_add, n32_sub, n32_mul, n32_m1, m1_n32, n32_addm1, m1_lt, lt_m1, m1_le, le_m1, m1_add1, ofNat_n32, u2_self, u2_n, mk_I, mk_T, ne_eq, not_true_eq_false, not_false_eq_true, ]; first | done | omega)) ?_ | with_reducible refine ok_ini (by first | assumption | omega | (simp (disch := omega) only [n32_of, neg_n32_1, n32_nat, n32_lt, n32_le, n32_eq, n32_add, n32_sub, n32_mul, n32_m1, m1_n32, n32_addm1, m1_lt, lt_m1, m1_le, le_m1, m1_add1, ofNat_n32, u2_self, u2_n, mk_I, mk_T, ne_eq, not_true_eq_false, not_false_eq_true, ]; first | done | omega)) ?_)
                  simp (disch := omega) only [n32_of, neg_n32_1, n32_nat, n32_lt, n32_le, n32_eq, n32_add, n32_sub, n32_mul, n32_m1, m1_n32, n32_addm1, m1_lt, lt_m1, m1_le, le_m1, m1_add1, ofNat_n32, u2_self, u2_n, mk_I, mk_T, c1, c3, c6]
                  exact nx
                · rw [if_neg k1] at nx
                  with_reducible refine ok_ipi (by first | assumption | omega | (simp (disch := omega) only [n32_of, neg_n32_1, n32_nat, n32_lt, n32_le, n32_eq, n32_add, n32_sub, n32_mul, n32_m1, m1_n32, n32_addm1, m1_lt, lt_m1, m1_le, le_m1, m1_add1, ofNat_n32, u2_self, u2_n, mk_I, mk_T, ne_eq, not_true_eq_false, not_false_eq_true, ]; first | done | omega)) ?_
                  by_cases k4 : w = 4
                  · subst k4
                    rw [if_pos rfl] at nx
                    repeat (first | with_reducible refine ok_W ?_ | with_reducible refine ok_cOi (by first | assumption | omega | (simp (disch := omega) only [n32_of, neg_n32_1, n32_nat, n32_lt, n32_le, n32_eq, n32_add, n32_sub, n32_mul, n32_m1, m1_n32, n32_addm1, m1_lt, lt_m1, m1_le, le_m1, m1_add1, ofNat_n32, u2_self, u2_n, mk_I, mk_T, ne_eq, not_true_eq_false, not_false_eq_true, ]; first | done | omega)) ?_ | with_reducible refine ok_ipi (by first | assumption | omega | (simp (disch := omega) only [n32_of, neg_n32_1, n32_nat, n32_lt, n32_le, n32_eq, n32_add, n32_sub, n32_mul, n32_m1, m1_n32, n32_addm1, m1_lt, lt_m1, m1_le, le_m1, m1_add1, ofNat_n32, u2_self, u2_n, mk_I, mk_T, ne_eq, not_true_eq_false, not_false_eq_true, ]; first | done | omega)) ?_ | with_reducible refine ok_ini (by first | assumption | omega | (simp (disch := omega) only [n32_of, neg_n32_1, n32_nat, n32_lt, n32_le, n32_eq, n32_add, n32_sub, n32_mul, n32_m1, m1_n32, n32_addm1, m1_lt, lt_m1, m1_le, le_m1, m1_add1, ofNat_n32, u2_self, u2_n, mk_I, mk_T, ne_eq, not_true_eq_false, not_false_eq_true, ]; first | done | omega)) ?_)
                    simp (disch := omega) only [n32_of, neg_n32_1, n32_nat, n32_lt, n32_le, n32_eq, n32_add, n32_sub, n32_mul, n32_m1, m1_n32, n32_addm1, m1_lt, lt_m1, m1_le, le_m1, m1_add1, ofNat_n32, u2_self, u2_n, mk_I, mk_T, c3]
                    exact nx
                  · rw [if_neg k4] at nx
                    with_reducible refine ok_ipi (by first | assumption | omega | (simp (disch := omega) only [n32_of, neg_n32_1, n32_nat, n32_lt, n32_le, n32_eq, n32_add, n32_sub, n32_mul, n32_m1, m1_n32, n32_addm1, m1_lt, lt_m1, m1_le, le_m1, m1_add1, ofNat_n32, u2_self, u2_n, mk_I, mk_T, ne_eq, not_true_eq_false, not_false_eq_true, ]; first | done | omega)) ?_
                    simp (disch := omega) only [n32_of, neg_n32_1, n32_nat, n32_lt, n32_le, n32_eq, n32_add, n32_sub, n32_mul, n32_m1, m1_n32, n32_addm1, m1_lt, lt_m1, m1_le, le_m1, m1_add1, ofNat_n32, u2_self, u2_n, mk_I, mk_T, ]
                    exact nx
      with_reducible refine ok_ini (by first | assumption | omega | (simp (disch := omega) only [n32_of, neg_n32_1, n32_nat, n32_lt, n32_le, n32_eq, n32_add, n32_sub, n32_mul, n32_m1, m1_n32, n32_addm1, m1_lt, lt_m1, m1_le, le_m1, m1_add1, ofNat_n32, u2_self, u2_n, mk_I, mk_T, ne_eq, not_true_eq_false, not_false_eq_true, ]; first | done | omega)) ?_
      with_reducible refine ok_ipi (by first | assumption | omega | (simp (disch := omega) only [n32_of, neg_n32_1, n32_nat, n32_lt, n32_le, n32_eq, n32_add, n32_sub, n32_mul, n32_m1, m1_n32, n32_addm1, m1_lt, lt_m1, m1_le, le_m1, m1_add1, ofNat_n32, u2_self, u2_n, mk_I, mk_T, ne_eq, not_true_eq_false, not_false_eq_true, ]; first | done | omega)) ?_
      refine ok_mono (xl N 0 (by omega) (by omega)) ?_
      rintro y _ ⟨rfl, rfl⟩
      refine ok_some (hQ _ _ ?_)
      unfold F_X12_sum J_X12_sum_16
      with_reducible refine ok_ini ?_ ?_
      · rw [mk_I, e53]
        decide
      with_reducible refine ok_ini (by first | assumption | omega | (simp (disch := omega) only [n32_of, neg_n32_1, n32_nat, n32_lt, n32_le, n32_eq, n32_add, n32_sub, n32_mul, n32_m1, m1_n32, n32_addm1, m1_lt, lt_m1, m1_le, le_m1, m1_add1, ofNat_n32, u2_self, u2_n, mk_I, mk_T, ne_eq, not_true_eq_false, not_false_eq_true, ]; first | done | omega)) ?_
      with_reducible refine ok_ipi (by first | assumption | omega | (simp (disch := omega) only [n32_of, neg_n32_1, n32_nat, n32_lt, n32_le, n32_eq, n32_add, n32_sub, n32_mul, n32_m1, m1_n32, n32_addm1, m1_lt, lt_m1, m1_le, le_m1, m1_add1, ofNat_n32, u2_self, u2_n, mk_I, mk_T, ne_eq, not_true_eq_false, not_false_eq_true, ]; first | done | omega)) ?_
      refine ok_mono (rl N 0 (by omega) (by omega)) ?_
      rintro y _ ⟨rfl, rfl⟩
      exact ⟨rfl, IV_mk hI0⟩
    · have rf : Ok (F_X12_sum N x1 (mk σ f)) (fun z σ2 => z = -1 ∧ σ2 = mk σ f) := by
        unfold F_X12_sum J_X12_sum_16
        clear hI0 h2 h3 h4 h5 h6 h7 h8 t hQ
        repeat' (with_reducible refine ok_ifi (fun _ => ?_) (fun _ => ?_))
        all_goals first
          | exact ok_some ⟨rfl, rfl⟩
          | (exfalso; simp (disch := omega) only [n32_of, neg_n32_1, ofNat_n32, Int32.lt_iff_toInt_lt, Int32.le_iff_toInt_le, i32_eq, n32_toInt, m1_toInt, ne_eq, Decidable.not_not] at *; first | done | omega)
      have g := hQ _ _ (fail rf)
      clear hI0 h2 h3 h4 h5 h6 h7 h8 t
      repeat' (with_reducible refine ok_ifi (fun _ => ?_) (fun _ => ?_))
      all_goals first
        | exact ok_some (ok_some g)
        | (exfalso; simp (disch := omega) only [n32_of, neg_n32_1, ofNat_n32, Int32.lt_iff_toInt_lt, Int32.le_iff_toInt_le, i32_eq, n32_toInt, m1_toInt, ne_eq, Decidable.not_not] at *; first | done | omega)
/-- boxes of a lot that stay -/
def gY (D : HD) (Y : LY) (dr : Nat → SR) (t l : Nat) : Int32 := if toT D t (dr l).1 = true ∧ on D Y dr (yq Y) l = none then n32 (lo D 3 l) else n32 0
set_option maxHeartbeats 400000 in
theorem op_stays (hN : 1000 ≤ N) (x1 : Int32) (hI : IVx σ f len D Y s dr st le ha sp nl rt lw) : Same σ (F_X11_stays N x1) (F_X12_stays N x1) f := by
  have hI0 := hI
  obtain ⟨t, h2, h3, h4, h5, h6, h7, h8⟩ := hI
  have n24 := h3.1.1
  have m6 := h3.1.2.1
  have q6 := h4.1.1
  have e11 := h3.2.1.1
  have e37 := h3.2.2.1
  have e8 := h5.2.1
  have e53 := h5.2.2
  have fail : ∀ {R : Option (Int32 × aSt)}, Ok R (fun z σ2 => z = -1 ∧ σ2 = mk σ f) → Ok R (fun z σ2 => (-1 : Int32) = z ∧ ∃ f' W, σ2 = mk σ f' ∧ IV σ f' W) := fun h => ok_mono h (fun z σ2 q => ⟨q.1.symm, by rw [q.2]; exact IV_mk hI0⟩)
  refine same_q (fun Q hQ => ?_)
  unfold F_X11_stays J_X11_stays_26 J_X11_stays_27
  simp only [s_isBelow, oB_s, bI_0, bI_n0]
  cases s with
  | false =>
    with_reducible refine ok_ipi ?_ ?_
    · exact e8
    refine ok_some (hQ _ _ (fail ?_))
    unfold F_X12_stays J_X12_stays_16
    refine ok_ifi (fun _ => ok_some ⟨rfl, rfl⟩) (fun _ => ok_ifi (fun _ => ok_some ⟨rfl, rfl⟩) (fun _ => ?_))
    with_reducible refine ok_ini ?_ ?_
    · exact fun q => q e53
    exact ok_some ⟨rfl, rfl⟩
  | true =>
    with_reducible refine ok_ini ?_ ?_
    · rw [mk_I, e8]
      decide
    by_cases hv : ¬ x1 < 0 ∧ x1 < 4
    · obtain ⟨b, hb, rfl⟩ := rng_lt (b := 4) (by omega) hv.1 hv.2
      with_reducible refine ok_ini ?_ ?_
      · exact fun q => q hv
      have xl : ∀ n l, hn D < n + l → l ≤ hn D → Ok (H_X9_boxesLeftFor_4 N n 101 (n32 b) (sumI (gY D Y dr b) l) (n32 l) (mk σ f)) (fun y σ' => y = sumI (gY D Y dr b) (hn D) ∧ σ' = mk σ f) := by
        intro n
        induction n with
        | zero => intro l h1 h2; omega
        | succ n ih =>
          intro l h1 h2
          rw [H_X9_boxesLeftFor_4]
          by_cases hl : hn D ≤ l
          · with_reducible refine ok_ipi (by first | assumption | omega | (simp (disch := omega) only [n32_of, neg_n32_1, n32_nat, n32_lt, n32_le, n32_eq, n32_add, n32_sub, n32_mul, n32_m1, m1_n32, n32_addm1, m1_lt, lt_m1, m1_le, le_m1, m1_add1, ofNat_n32, u2_self, u2_n, mk_I, mk_T, ne_eq, not_true_eq_false, not_false_eq_true, e11]; first | done | omega)) ?_
            rw [show l = hn D by omega]
            exact ok_some ⟨rfl, rfl⟩
          · with_reducible refine ok_ini (by first | assumption | omega | (simp (disch := omega) only [n32_of, neg_n32_1, n32_nat, n32_lt, n32_le, n32_eq, n32_add, n32_sub, n32_mul, n32_m1, m1_n32, n32_addm1, m1_lt, lt_m1, m1_le, le_m1, m1_add1, ofNat_n32, u2_self, u2_n, mk_I, mk_T, ne_eq, not_true_eq_false, not_false_eq_true, e11]; first | done | omega)) ?_
            have dl := h3.1.2.2.1 l (by omega)
            have c3 : f (23 + l) 3 = n32 (lo D 3 l) := h3.2.1.2.2.1 3 l (by omega) (by omega)
            obtain ⟨w0, -, -, -, -, -, -, w7⟩ := ((h7 rfl).2.1 l (by omega)).1
            have nx := ih (l + 1) (by omega) (by omega)
            rw [sumI] at nx
            unfold J_X9_boxesLeftFor_41 J_X9_boxesLeftFor_42 J_X9_boxesLeftFor_66
            refine ok_oB (ok_eq (x_soldTo h3.1 (h7 rfl).1 h3.2.1 (by omega) w0 (by omega)) (ok_some ?_))
            by_cases hT : toT D b (dr l).1 = true
            · rw [hT]
              refine ok_ini (by decide) ?_
              with_reducible refine ok_cOi (by first | assumption | omega | (simp (disch := omega) only [n32_of, neg_n32_1, n32_nat, n32_lt, n32_le, n32_eq, n32_add, n32_sub, n32_mul, n32_m1, m1_n32, n32_addm1, m1_lt, lt_m1, m1_le, le_m1, m1_add1, ofNat_n32, u2_self, u2_n, mk_I, mk_T, ne_eq, not_true_eq_false, not_false_eq_true, ]; first | done | omega)) ?_
              cases ho : on D Y dr (yq Y) l with
              | none =>
                rw [ho] at w7
                rw [show gY D Y dr b l = n32 (lo D 3 l) from if_pos ⟨hT, ho⟩] at nx
                with_reducible refine ok_ini (by first | assumption | omega | (simp (disch := omega) only [n32_of, neg_n32_1, n32_nat, n32_lt, n32_le, n32_eq, n32_add, n32_sub, n32_mul, n32_m1, m1_n32, n32_addm1, m1_lt, lt_m1, m1_le, le_m1, m1_add1, ofNat_n32, u2_self, u2_n, mk_I, mk_T, ne_eq, not_true_eq_false, not_false_eq_true, w7, oI_n]; first | done | omega)) ?_
                refine ok_ini (by decide) ?_
                with_reducible refine ok_cOi (by first | assumption | omega | (simp (disch := omega) only [n32_of, neg_n32_1, n32_nat, n32_lt, n32_le, n32_eq, n32_add, n32_sub, n32_mul, n32_m1, m1_n32, n32_addm1, m1_lt, lt_m1, m1_le, le_m1, m1_add1, ofNat_n32, u2_self, u2_n, mk_I, mk_T, ne_eq, not_true_eq_false, not_false_eq_true, ]; first | done | omega)) ?_
                simp (disch := omega) only [n32_of, neg_n32_1, n32_nat, n32_lt, n32_le, n32_eq, n32_add, n32_sub, n32_mul, n32_m1, m1_n32, n32_addm1, m1_lt, lt_m1, m1_le, le_m1, m1_add1, ofNat_n32, u2_self, u2_n, mk_I, mk_T, c3]
                exact nx
              | some v =>
                have := on_lt D Y dr _ _ _ ho
                rw [ho] at w7
                rw [show gY D Y dr b l = n32 0 from if_neg (fun q => by rw [ho] at q; cases q.2)] at nx
                with_reducible refine ok_ipi (by first | assumption | omega | (simp (disch := omega) only [n32_of, neg_n32_1, n32_nat, n32_lt, n32_le, n32_eq, n32_add, n32_sub, n32_mul, n32_m1, m1_n32, n32_addm1, m1_lt, lt_m1, m1_le, le_m1, m1_add1, ofNat_n32, u2_self, u2_n, mk_I, mk_T, ne_eq, not_true_eq_false, not_false_eq_true, w7, oI_s]; first | done | omega)) ?_
                refine ok_ipi rfl ?_
                simp (disch := omega) only [n32_of, neg_n32_1, n32_nat, n32_lt, n32_le, n32_eq, n32_add, n32_sub, n32_mul, n32_m1, m1_n32, n32_addm1, m1_lt, lt_m1, m1_le, le_m1, m1_add1, ofNat_n32, u2_self, u2_n, mk_I, mk_T, ]
                exact nx
            · rw [Bool.not_eq_true] at hT
              rw [hT]
              rw [show gY D Y dr b l = n32 0 from if_neg (fun q => by rw [hT] at q; exact Bool.noConfusion q.1)] at nx
              refine ok_ipi rfl (ok_ipi rfl ?_)
              simp (disch := omega) only [n32_of, neg_n32_1, n32_nat, n32_lt, n32_le, n32_eq, n32_add, n32_sub, n32_mul, n32_m1, m1_n32, n32_addm1, m1_lt, lt_m1, m1_le, le_m1, m1_add1, ofNat_n32, u2_self, u2_n, mk_I, mk_T, ]
              exact nx
      unfold F_X9_boxesLeftFor
      refine ok_oB (ok_mono (xl N 0 (by omega) (by omega)) ?_)
      rintro y _ ⟨rfl, rfl⟩
      refine ok_some (hQ _ _ ?_)
      unfold F_X12_stays J_X12_stays_16
      with_reducible refine ok_ini (by first | assumption | omega | (simp (disch := omega) only [n32_of, neg_n32_1, n32_nat, n32_lt, n32_le, n32_eq, n32_add, n32_sub, n32_mul, n32_m1, m1_n32, n32_addm1, m1_lt, lt_m1, m1_le, le_m1, m1_add1, ofNat_n32, u2_self, u2_n, mk_I, mk_T, ne_eq, not_true_eq_false, not_false_eq_true, ]; first | done | omega)) ?_
      with_reducible refine ok_ini (by first | assumption | omega | (simp (disch := omega) only [n32_of, neg_n32_1, n32_nat, n32_lt, n32_le, n32_eq, n32_add, n32_sub, n32_mul, n32_m1, m1_n32, n32_addm1, m1_lt, lt_m1, m1_le, le_m1, m1_add1, ofNat_n32, u2_self, u2_n, mk_I, mk_T, ne_eq, not_true_eq_false, not_false_eq_true, ]; first | done | omega)) ?_
      with_reducible refine ok_ipi ?_ ?_
      · rw [mk_I, e53]
        decide
      refine ok_oB (ok_mono (r_loads hN h3.1 (h7 rfl).1 h4.1 (fr_of h3 h4 h7)) ?_)
      rintro _ _ ⟨f', rfl, e', w⟩
      have rl : ∀ n l, hn D < n + l → l ≤ hn D → Ok (H_X12_stays_26 N n (n32 b) (sumI (gY D Y dr b) l) (n32 l) (mk σ f')) (fun y σ' => y = sumI (gY D Y dr b) (hn D) ∧ σ' = mk σ f') := by
        intro n
        induction n with
        | zero => intro l h1 h2; omega
        | succ n ih =>
          intro l h1 h2
          have e37' := (e' 235 37 (by omega)).trans e37
          rw [H_X12_stays_26]
          by_cases hl : hn D ≤ l
          · with_reducible refine ok_ipi (by first | assumption | omega | (simp (disch := omega) only [n32_of, neg_n32_1, n32_nat, n32_lt, n32_le, n32_eq, n32_add, n32_sub, n32_mul, n32_m1, m1_n32, n32_addm1, m1_lt, lt_m1, m1_le, le_m1, m1_add1, ofNat_n32, u2_self, u2_n, mk_I, mk_T, ne_eq, not_true_eq_false, not_false_eq_true, e37']; first | done | omega)) ?_
            rw [show l = hn D by omega]
            exact ok_some ⟨rfl, rfl⟩
          · with_reducible refine ok_ini (by first | assumption | omega | (simp (disch := omega) only [n32_of, neg_n32_1, n32_nat, n32_lt, n32_le, n32_eq, n32_add, n32_sub, n32_mul, n32_m1, m1_n32, n32_addm1, m1_lt, lt_m1, m1_le, le_m1, m1_add1, ofNat_n32, u2_self, u2_n, mk_I, mk_T, ne_eq, not_true_eq_false, not_false_eq_true, e37']; first | done | omega)) ?_
            with_reducible refine ok_cOi (by first | assumption | omega | (simp (disch := omega) only [n32_of, neg_n32_1, n32_nat, n32_lt, n32_le, n32_eq, n32_add, n32_sub, n32_mul, n32_m1, m1_n32, n32_addm1, m1_lt, lt_m1, m1_le, le_m1, m1_add1, ofNat_n32, u2_self, u2_n, mk_I, mk_T, ne_eq, not_true_eq_false, not_false_eq_true, ]; first | done | omega)) ?_
            have dl := h3.1.2.2.1 l (by omega)
            have od := (h7 rfl).1 l (by omega)
            have c3 : f' 262 l = n32 (lo D 3 l) := (e' 262 l (by omega)).trans (h3.2.2.2.2.1 3 l (by omega) (by omega))
            have c0 : f' 287 l = oI (dr l).1 := (e' 287 l (by omega)).trans ((h7 rfl).2.1 l (by omega)).2.1
            have w7 := w l (by omega)
            have nx := ih (l + 1) (by omega) (by omega)
            rw [sumI] at nx
            unfold J_X12_stays_78
            cases hb' : (dr l).1 with
            | none =>
              rw [hb'] at c0
              rw [show gY D Y dr b l = n32 0 from if_neg (fun q => by rw [hb'] at q; exact Bool.noConfusion q.1), add_n0] at nx
              with_reducible refine ok_ipi (by first | assumption | omega | (simp (disch := omega) only [n32_of, neg_n32_1, n32_nat, n32_lt, n32_le, n32_eq, n32_add, n32_sub, n32_mul, n32_m1, m1_n32, n32_addm1, m1_lt, lt_m1, m1_le, le_m1, m1_add1, ofNat_n32, u2_self, u2_n, mk_I, mk_T, ne_eq, not_true_eq_false, not_false_eq_true, c0, oI_n]; first | done | omega)) ?_
              simp (disch := omega) only [n32_of, neg_n32_1, n32_nat, n32_lt, n32_le, n32_eq, n32_add, n32_sub, n32_mul, n32_m1, m1_n32, n32_addm1, m1_lt, lt_m1, m1_le, le_m1, m1_add1, ofNat_n32, u2_self, u2_n, mk_I, mk_T, ]
              exact nx
            | some b' =>
              rw [hb'] at c0
              have hb6 := od.1 b' hb'
              have tb := h3.1.2.2.2.1 b' hb6
              have ct : f' 264 b' = n32 (tw D b') := (e' 264 b' (by omega)).trans (h3.2.2.2.2.2.2.1 b' hb6).1
              with_reducible refine ok_ini (by first | assumption | omega | (simp (disch := omega) only [n32_of, neg_n32_1, n32_nat, n32_lt, n32_le, n32_eq, n32_add, n32_sub, n32_mul, n32_m1, m1_n32, n32_addm1, m1_lt, lt_m1, m1_le, le_m1, m1_add1, ofNat_n32, u2_self, u2_n, mk_I, mk_T, ne_eq, not_true_eq_false, not_false_eq_true, c0, oI_s]; first | done | omega)) ?_
              with_reducible refine ok_cOi (by first | assumption | omega | (simp (disch := omega) only [n32_of, neg_n32_1, n32_nat, n32_lt, n32_le, n32_eq, n32_add, n32_sub, n32_mul, n32_m1, m1_n32, n32_addm1, m1_lt, lt_m1, m1_le, le_m1, m1_add1, ofNat_n32, u2_self, u2_n, mk_I, mk_T, ne_eq, not_true_eq_false, not_false_eq_true, ]; first | done | omega)) ?_
              with_reducible refine ok_cOi (by first | assumption | omega | (simp (disch := omega) only [n32_of, neg_n32_1, n32_nat, n32_lt, n32_le, n32_eq, n32_add, n32_sub, n32_mul, n32_m1, m1_n32, n32_addm1, m1_lt, lt_m1, m1_le, le_m1, m1_add1, ofNat_n32, u2_self, u2_n, mk_I, mk_T, ne_eq, not_true_eq_false, not_false_eq_true, c0, oI_s]; first | done | omega)) ?_
              by_cases hT : tw D b' = b
              · with_reducible refine ok_ini (by first | assumption | omega | (simp (disch := omega) only [n32_of, neg_n32_1, n32_nat, n32_lt, n32_le, n32_eq, n32_add, n32_sub, n32_mul, n32_m1, m1_n32, n32_addm1, m1_lt, lt_m1, m1_le, le_m1, m1_add1, ofNat_n32, u2_self, u2_n, mk_I, mk_T, ne_eq, not_true_eq_false, not_false_eq_true, c0, oI_s, ct]; first | done | omega)) ?_
                with_reducible refine ok_cOi (by first | assumption | omega | (simp (disch := omega) only [n32_of, neg_n32_1, n32_nat, n32_lt, n32_le, n32_eq, n32_add, n32_sub, n32_mul, n32_m1, m1_n32, n32_addm1, m1_lt, lt_m1, m1_le, le_m1, m1_add1, ofNat_n32, u2_self, u2_n, mk_I, mk_T, ne_eq, not_true_eq_false, not_false_eq_true, ]; first | done | omega)) ?_
                cases ho : on D Y dr (yq Y) l with
                | none =>
                  rw [ho] at w7
                  rw [show gY D Y dr b l = n32 (lo D 3 l) from if_pos ⟨by rw [hb', toT_s]; exact decide_eq_true hT, ho⟩] at nx
                  with_reducible refine ok_ini (by first | assumption | omega | (simp (disch := omega) only [n32_of, neg_n32_1, n32_nat, n32_lt, n32_le, n32_eq, n32_add, n32_sub, n32_mul, n32_m1, m1_n32, n32_addm1, m1_lt, lt_m1, m1_le, le_m1, m1_add1, ofNat_n32, u2_self, u2_n, mk_I, mk_T, ne_eq, not_true_eq_false, not_false_eq_true, w7, oI_n]; first | done | omega)) ?_
                  with_reducible refine ok_cOi (by first | assumption | omega | (simp (disch := omega) only [n32_of, neg_n32_1, n32_nat, n32_lt, n32_le, n32_eq, n32_add, n32_sub, n32_mul, n32_m1, m1_n32, n32_addm1, m1_lt, lt_m1, m1_le, le_m1, m1_add1, ofNat_n32, u2_self, u2_n, mk_I, mk_T, ne_eq, not_true_eq_false, not_false_eq_true, ]; first | done | omega)) ?_
                  simp (disch := omega) only [n32_of, neg_n32_1, n32_nat, n32_lt, n32_le, n32_eq, n32_add, n32_sub, n32_mul, n32_m1, m1_n32, n32_addm1, m1_lt, lt_m1, m1_le, le_m1, m1_add1, ofNat_n32, u2_self, u2_n, mk_I, mk_T, c3]
                  exact nx
                | some v =>
                  have := on_lt D Y dr _ _ _ ho
                  rw [ho] at w7
                  rw [show gY D Y dr b l = n32 0 from if_neg (fun q => by rw [ho] at q; cases q.2), add_n0] at nx
                  with_reducible refine ok_ipi (by first | assumption | omega | (simp (disch := omega) only [n32_of, neg_n32_1, n32_nat, n32_lt, n32_le, n32_eq, n32_add, n32_sub, n32_mul, n32_m1, m1_n32, n32_addm1, m1_lt, lt_m1, m1_le, le_m1, m1_add1, ofNat_n32, u2_self, u2_n, mk_I, mk_T, ne_eq, not_true_eq_false, not_false_eq_true, w7, oI_s]; first | done | omega)) ?_
                  simp (disch := omega) only [n32_of, neg_n32_1, n32_nat, n32_lt, n32_le, n32_eq, n32_add, n32_sub, n32_mul, n32_m1, m1_n32, n32_addm1, m1_lt, lt_m1, m1_le, le_m1, m1_add1, ofNat_n32, u2_self, u2_n, mk_I, mk_T, ]
                  exact nx
              · rw [show gY D Y dr b l = n32 0 from if_neg (fun q => by rw [hb', toT_s, decide_eq_false hT] at q; exact Bool.noConfusion q.1), add_n0] at nx
                with_reducible refine ok_ipi (by first | assumption | omega | (simp (disch := omega) only [n32_of, neg_n32_1, n32_nat, n32_lt, n32_le, n32_eq, n32_add, n32_sub, n32_mul, n32_m1, m1_n32, n32_addm1, m1_lt, lt_m1, m1_le, le_m1, m1_add1, ofNat_n32, u2_self, u2_n, mk_I, mk_T, ne_eq, not_true_eq_false, not_false_eq_true, c0, oI_s, ct]; first | done | omega)) ?_
                simp (disch := omega) only [n32_of, neg_n32_1, n32_nat, n32_lt, n32_le, n32_eq, n32_add, n32_sub, n32_mul, n32_m1, m1_n32, n32_addm1, m1_lt, lt_m1, m1_le, le_m1, m1_add1, ofNat_n32, u2_self, u2_n, mk_I, mk_T, ]
                exact nx
      refine ok_mono (rl N 0 (by omega) (by omega)) ?_
      rintro y _ ⟨rfl, rfl⟩
      exact ⟨rfl, IV_mk (IVx_cg hI0 (fun a k hk => e' a k (nvLd hk)))⟩
    · with_reducible refine ok_ipi ?_ ?_
      · exact hv
      refine ok_some (hQ _ _ (fail ?_))
      unfold F_X12_stays J_X12_stays_16
      clear hI0 h2 h3 h4 h5 h6 h7 h8 t hQ
      repeat' (with_reducible refine ok_ifi (fun _ => ?_) (fun _ => ?_))
      all_goals first
        | exact ok_some ⟨rfl, rfl⟩
        | (exfalso; simp (disch := omega) only [n32_of, neg_n32_1, ofNat_n32, Int32.lt_iff_toInt_lt, Int32.le_iff_toInt_le, i32_eq, n32_toInt, m1_toInt, ne_eq, Decidable.not_not] at *; first | done | omega)
end OPS7
