theorem cel (f : pln) {a a' k k' : Nat} {v : Int32} (h1 : a' = a) (h2 : k' = k) (h : f a k = v) : f a' k' = v := by
  subst h1
  subst h2
  exact h
def pS (g : Nat → Nat) : Nat → Nat
  | 0 => 0
  | k + 1 => pS g k + g k
theorem pS_6 (g : Nat → Nat) : pS g 6 = sum6 g := by
  simp only [pS, sum6]
  omega
def sumI (g : Nat → Int32) : Nat → Int32
  | 0 => n32 0
  | l + 1 => sumI g l + g l
theorem add_n0 (x : Int32) : x + n32 0 = x := Int32.add_zero x
theorem sumI_cg {g g' : Nat → Int32} : ∀ {L : Nat}, (∀ l, l < L → g l = g' l) → sumI g L = sumI g' L
  | 0, _ => rfl
  | L + 1, h => by rw [sumI, sumI, sumI_cg (fun l hl => h l (by omega)), h L (by omega)]
section OPS6
variable {N : Nat} {σ : aSt} {f : pln} {len : Nat} {D : HD} {Y : LY} {s : Bool} {dr : Nat → SR} {st le : Nat → Nat} {ha : Nat → Nat → Nat} {sp nl : Nat → Nat} {rt : Nat → List Ru} {lw : Nat → Nat}
theorem r_bought {b : Nat} (hb : b < 6) (h : ∀ k, k < 6 → f 271 (6 * b + k) = n32 (ha b k)) : ∀ n k, 6 < n + k → k ≤ 6 → Ok (H_X12_bought_97 N n (n32 b) (n32 (pS (ha b) k)) (n32 k) (mk σ f)) (fun y σ' => y = n32 (sum6 (ha b)) ∧ σ' = mk σ f) := by
  intro n
  induction n with
  | zero => intro k h1 h2; omega
  | succ n ih =>
    intro k h1 h2
    rw [H_X12_bought_97]
    by_cases hk : 6 ≤ k
    · with_reducible refine ok_ipi (by first | assumption | omega | (simp (disch := omega) only [n32_of, neg_n32_1, n32_nat, n32_lt, n32_le, n32_eq, n32_add, n32_sub, n32_mul, n32_m1, m1_n32, n32_addm1, m1_lt, lt_m1, m1_le, le_m1, m1_add1, ofNat_n32, u2_self, u2_n, mk_I, mk_T, ne_eq, not_true_eq_false, not_false_eq_true, ]; first | done | omega)) ?_
      rw [show k = 6 by omega, pS_6]
      exact ok_some ⟨rfl, rfl⟩
    · with_reducible refine ok_ini (by first | assumption | omega | (simp (disch := omega) only [n32_of, neg_n32_1, n32_nat, n32_lt, n32_le, n32_eq, n32_add, n32_sub, n32_mul, n32_m1, m1_n32, n32_addm1, m1_lt, lt_m1, m1_le, le_m1, m1_add1, ofNat_n32, u2_self, u2_n, mk_I, mk_T, ne_eq, not_true_eq_false, not_false_eq_true, ]; first | done | omega)) ?_
      with_reducible refine ok_cOi (by first | assumption | omega | (simp (disch := omega) only [n32_of, neg_n32_1, n32_nat, n32_lt, n32_le, n32_eq, n32_add, n32_sub, n32_mul, n32_m1, m1_n32, n32_addm1, m1_lt, lt_m1, m1_le, le_m1, m1_add1, ofNat_n32, u2_self, u2_n, mk_I, mk_T, ne_eq, not_true_eq_false, not_false_eq_true, ]; first | done | omega)) ?_
      simp (disch := omega) only [n32_of, neg_n32_1, n32_nat, n32_lt, n32_le, n32_eq, n32_add, n32_sub, n32_mul, n32_m1, m1_n32, n32_addm1, m1_lt, lt_m1, m1_le, le_m1, m1_add1, ofNat_n32, u2_self, u2_n, mk_I, mk_T, h k (by omega)]
      exact ih (k + 1) (by omega) (by omega)
set_option maxHeartbeats 400000 in
theorem op_bought (hN : 1000 ≤ N) (x1 x2 : Int32) (hI : IVx σ f len D Y s dr st le ha sp nl rt lw) : Same σ (F_X11_bought N x1 x2) (F_X12_bought N x1 x2) f := by
  have hI0 := hI
  obtain ⟨t, h2, h3, h4, h5, h6, h7, h8⟩ := hI
  have n24 := h3.1.1
  have m6 := h3.1.2.1
  have e3 := h3.2.1.2.1
  have e43 := h3.2.2.2.1
  have fail : ∀ {R : Option (Int32 × aSt)}, Ok R (fun z σ2 => z = -1 ∧ σ2 = mk σ f) → Ok R (fun z σ2 => (-1 : Int32) = z ∧ ∃ f' W, σ2 = mk σ f' ∧ IV σ f' W) := fun h => ok_mono h (fun z σ2 q => ⟨q.1.symm, by rw [q.2]; exact IV_mk hI0⟩)
  refine same_q (fun Q hQ => ?_)
  unfold F_X11_bought
  simp only [s_hasBuyer, s_isBelow, oB_s, bI_0, bI_n0]
  by_cases hb : ¬ x1 < 0 ∧ x1 < n32 (hm D)
  · with_reducible refine ok_ipi ?_ ?_
    · rw [mk_I, e3]
      exact hb
    obtain ⟨b, hb2, rfl⟩ := rng_lt (by omega) hb.1 hb.2
    obtain ⟨p1, ⟨p2, p3⟩, p4, p5⟩ := h6.1 b hb2
    with_reducible refine ok_cOi (by first | assumption | omega | (simp (disch := omega) only [n32_of, neg_n32_1, n32_nat, n32_lt, n32_le, n32_eq, n32_add, n32_sub, n32_mul, n32_m1, m1_n32, n32_addm1, m1_lt, lt_m1, m1_le, le_m1, m1_add1, ofNat_n32, u2_self, u2_n, mk_I, mk_T, ne_eq, not_true_eq_false, not_false_eq_true, ]; first | done | omega)) ?_
    rw [n32_nat (by omega)]
    have rstart : ∀ (y : Int32), (∀ f2, NR f2 ha sp → eqV vis f f2 → Ok (if x2 < 10 then J_X12_bought_41 N (n32 b) x2 (mk σ f2) else if 16 ≤ x2 then J_X12_bought_41 N (n32 b) x2 (mk σ f2) else cO (¬ ((((6 * (n32 b)) + x2) - 10) < 0 ∨ 36 ≤ (((6 * (n32 b)) + x2) - 10).toNatClampNeg)) (some (aI (mk σ f2) 271 (((6 * (n32 b)) + x2) - 10).toNatClampNeg, mk σ f2))) (fun z σ2 => y = z ∧ σ2 = mk σ f2)) → Q y (mk σ f) := by
      intro y hg
      refine hQ _ _ ?_
      unfold F_X12_bought
      simp only [s_isBuyer, oB_s, bI_0, bI_n0]
      with_reducible refine ok_ipi ?_ ?_
      · rw [mk_I, e43]
        exact hb
      refine ok_oB (ok_mono (r_stands hN) ?_)
      rintro _ _ ⟨f2, rfl, q1, u1, u2⟩
      have hv : eqV vis f f2 := fun a k hk => q1 a k (by have := nvS hk; omega)
      refine ok_mono (hg f2 ⟨fun b' k hb' hk => (u1 _ (by omega)).trans (h6.2.1 b' k hb' hk), fun b' hb' => (u2 _ hb').trans (h6.2.2.1 b' hb').1⟩ hv) (fun z σ2 q => ⟨q.1, ?_⟩)
      rw [q.2]
      exact IV_mk (IVx_cg hI0 hv)
    by_cases cA : ∃ k, k < 6 ∧ x2 = n32 (10 + k)
    · obtain ⟨k, hk, rfl⟩ := cA
      with_reducible refine ok_ini ?_ ?_
      · exact fun q => q ((below_iff (c := 10) (m := 6) (by omega)).mpr ⟨k, hk, rfl⟩)
      with_reducible refine ok_cOi (by first | assumption | omega | (simp (disch := omega) only [n32_of, neg_n32_1, n32_nat, n32_lt, n32_le, n32_eq, n32_add, n32_sub, n32_mul, n32_m1, m1_n32, n32_addm1, m1_lt, lt_m1, m1_le, le_m1, m1_add1, ofNat_n32, u2_self, u2_n, mk_I, mk_T, ne_eq, not_true_eq_false, not_false_eq_true, ]; first | done | omega)) ?_
      refine ok_some (rstart _ (fun f2 hN2 hv => ?_))
      with_reducible refine ok_ini (by first | assumption | omega | (simp (disch := omega) only [n32_of, neg_n32_1, n32_nat, n32_lt, n32_le, n32_eq, n32_add, n32_sub, n32_mul, n32_m1, m1_n32, n32_addm1, m1_lt, lt_m1, m1_le, le_m1, m1_add1, ofNat_n32, u2_self, u2_n, mk_I, mk_T, ne_eq, not_true_eq_false, not_false_eq_true, ]; first | done | omega)) ?_
      with_reducible refine ok_ini (by first | assumption | omega | (simp (disch := omega) only [n32_of, neg_n32_1, n32_nat, n32_lt, n32_le, n32_eq, n32_add, n32_sub, n32_mul, n32_m1, m1_n32, n32_addm1, m1_lt, lt_m1, m1_le, le_m1, m1_add1, ofNat_n32, u2_self, u2_n, mk_I, mk_T, ne_eq, not_true_eq_false, not_false_eq_true, ]; first | done | omega)) ?_
      with_reducible refine ok_cOi (by first | assumption | omega | (simp (disch := omega) only [n32_of, neg_n32_1, n32_nat, n32_lt, n32_le, n32_eq, n32_add, n32_sub, n32_mul, n32_m1, m1_n32, n32_addm1, m1_lt, lt_m1, m1_le, le_m1, m1_add1, ofNat_n32, u2_self, u2_n, mk_I, mk_T, ne_eq, not_true_eq_false, not_false_eq_true, ]; first | done | omega)) ?_
      refine ok_some ⟨?_, rfl⟩
      simp (disch := omega) only [n32_of, neg_n32_1, n32_nat, n32_lt, n32_le, n32_eq, n32_add, n32_sub, n32_mul, n32_m1, m1_n32, n32_addm1, m1_lt, lt_m1, m1_le, le_m1, m1_add1, ofNat_n32, u2_self, u2_n, mk_I, mk_T, ]
      exact (cel f (by omega) (by omega) (p3 k hk)).trans (cel f2 (by omega) (by omega) ((hv 271 (6 * b + k) (vP (by omega))).trans (h6.2.1 b k (by omega) hk))).symm
    · with_reducible refine ok_ipi ?_ ?_
      · exact fun q => cA ((below_iff (c := 10) (m := 6) (by omega)).mp q)
      by_cases cB : ∃ k, k < 6 ∧ x2 = n32 (20 + k)
      · obtain ⟨k, hk, rfl⟩ := cB
        have e20 : n32 (20 + k) - 20 = n32 k := by
          show n32 (20 + k) - n32 20 = n32 k
          rw [n32_sub (by omega), show 20 + k - 20 = k by omega]
        with_reducible refine ok_ini ?_ ?_
        · exact fun q => q ((below_iff (c := 20) (m := 6) (by omega)).mpr ⟨k, hk, rfl⟩)
        rw [e20]
        refine ok_oB (ok_eq (x_stillWanted (ha := ha) h3.1 h3.2.1 (by omega) hk (p3 k hk) (p1.1 k hk)) (ok_some ?_))
        refine ok_some (rstart _ (fun f2 hN2 hv => ?_))
        unfold J_X12_bought_41
        with_reducible refine ok_ini (by first | assumption | omega | (simp (disch := omega) only [n32_of, neg_n32_1, n32_nat, n32_lt, n32_le, n32_eq, n32_add, n32_sub, n32_mul, n32_m1, m1_n32, n32_addm1, m1_lt, lt_m1, m1_le, le_m1, m1_add1, ofNat_n32, u2_self, u2_n, mk_I, mk_T, ne_eq, not_true_eq_false, not_false_eq_true, ]; first | done | omega)) ?_
        with_reducible refine ok_ipi (by first | assumption | omega | (simp (disch := omega) only [n32_of, neg_n32_1, n32_nat, n32_lt, n32_le, n32_eq, n32_add, n32_sub, n32_mul, n32_m1, m1_n32, n32_addm1, m1_lt, lt_m1, m1_le, le_m1, m1_add1, ofNat_n32, u2_self, u2_n, mk_I, mk_T, ne_eq, not_true_eq_false, not_false_eq_true, ]; first | done | omega)) ?_
        with_reducible refine ok_ini (by first | assumption | omega | (simp (disch := omega) only [n32_of, neg_n32_1, n32_nat, n32_lt, n32_le, n32_eq, n32_add, n32_sub, n32_mul, n32_m1, m1_n32, n32_addm1, m1_lt, lt_m1, m1_le, le_m1, m1_add1, ofNat_n32, u2_self, u2_n, mk_I, mk_T, ne_eq, not_true_eq_false, not_false_eq_true, ]; first | done | omega)) ?_
        with_reducible refine ok_ini (by first | assumption | omega | (simp (disch := omega) only [n32_of, neg_n32_1, n32_nat, n32_lt, n32_le, n32_eq, n32_add, n32_sub, n32_mul, n32_m1, m1_n32, n32_addm1, m1_lt, lt_m1, m1_le, le_m1, m1_add1, ofNat_n32, u2_self, u2_n, mk_I, mk_T, ne_eq, not_true_eq_false, not_false_eq_true, ]; first | done | omega)) ?_
        rw [e20]
        refine ok_oB (ok_eq (r_left h3.1 (HR_V h3.2.2 (fun a k hk => hv a k (vH hk))) (by omega) hk hN2 (p1.1 k hk)) (ok_some ?_))
        exact ok_some ⟨rfl, rfl⟩
      · with_reducible refine ok_ipi ?_ ?_
        · exact fun q => cB ((below_iff (c := 20) (m := 6) (by omega)).mp q)
        have skip : ∀ (y : Int32) (f2 : pln) (v : Option (Int32 × aSt)) (w : Option (Int32 × aSt)), Ok (J_X12_bought_63 N (n32 b) x2 (mk σ f2)) (fun z σ2 => y = z ∧ σ2 = mk σ f2) → Ok (if x2 < 10 then J_X12_bought_41 N (n32 b) x2 (mk σ f2) else if 16 ≤ x2 then J_X12_bought_41 N (n32 b) x2 (mk σ f2) else v) (fun z σ2 => y = z ∧ σ2 = mk σ f2) := by
          intro y f2 v w h
          have h41 : Ok (J_X12_bought_41 N (n32 b) x2 (mk σ f2)) (fun z σ2 => y = z ∧ σ2 = mk σ f2) := by
            unfold J_X12_bought_41
            refine ok_ifi (fun _ => h) (fun d1 => ok_ifi (fun _ => h) (fun d2 => absurd ?_ cB))
            rw [Int32.not_le] at d2
            obtain ⟨i, i1, i2, rfl⟩ := rng_le (x := x2) (a := 20) (b := 25) (by omega) (by omega) d1 (fun q => by rw [Int32.lt_iff_toInt_lt] at d2 q; have w1 : x2.toInt < 26 := d2; have w2 : 25 < x2.toInt := q; omega)
            exact ⟨i - 20, by omega, by rw [show 20 + (i - 20) = i by omega]⟩
          refine ok_ifi (fun _ => h41) (fun d1 => ok_ifi (fun _ => h41) (fun d2 => absurd ?_ cA))
          rw [Int32.not_le] at d2
          obtain ⟨i, i1, i2, rfl⟩ := rng_le (x := x2) (a := 10) (b := 15) (by omega) (by omega) d1 (fun q => by rw [Int32.lt_iff_toInt_lt] at d2 q; have w1 : x2.toInt < 16 := d2; have w2 : 15 < x2.toInt := q; omega)
          exact ⟨i - 10, by omega, by rw [show 10 + (i - 10) = i by omega]⟩
        by_cases d0 : x2 = 0
        · refine ok_ipi d0 (ok_some (rstart _ (fun f2 hN2 hv => skip _ f2 _ none ?_)))
          unfold J_X12_bought_63
          refine ok_ipi d0 (ok_mono (r_bought (ha := ha) (by omega) (fun k hk => (hv _ _ (vP (by omega))).trans (h6.2.1 b k (by omega) hk)) N 0 (by omega) (by omega)) (fun z σ2 q => ⟨?_, q.2⟩))
          rw [q.1]
          exact p4
        refine ok_ini d0 ?_
        by_cases d1 : x2 = 1
        · refine ok_ipi d1 (ok_some (rstart _ (fun f2 hN2 hv => skip _ f2 _ none ?_)))
          unfold J_X12_bought_63
          refine ok_ini d0 (ok_ipi d1 ?_)
          have a1 : f2 265 b = n32 (cr D b) := (hv _ _ (vH (by omega))).trans (h3.2.2.2.2.2.2.1 b hb2).2
          have a2 : f2 272 b = n32 (sp b) := (hv _ _ (vP (by omega))).trans (h6.2.2.1 b (by omega)).1
          with_reducible refine ok_cOi (by first | assumption | omega | (simp (disch := omega) only [n32_of, neg_n32_1, n32_nat, n32_lt, n32_le, n32_eq, n32_add, n32_sub, n32_mul, n32_m1, m1_n32, n32_addm1, m1_lt, lt_m1, m1_le, le_m1, m1_add1, ofNat_n32, u2_self, u2_n, mk_I, mk_T, ne_eq, not_true_eq_false, not_false_eq_true, ]; first | done | omega)) ?_
          with_reducible refine ok_cOi (by first | assumption | omega | (simp (disch := omega) only [n32_of, neg_n32_1, n32_nat, n32_lt, n32_le, n32_eq, n32_add, n32_sub, n32_mul, n32_m1, m1_n32, n32_addm1, m1_lt, lt_m1, m1_le, le_m1, m1_add1, ofNat_n32, u2_self, u2_n, mk_I, mk_T, ne_eq, not_true_eq_false, not_false_eq_true, ]; first | done | omega)) ?_
          refine ok_some ⟨?_, rfl⟩
          have := p1.2
          simp (disch := omega) only [n32_of, neg_n32_1, n32_nat, n32_lt, n32_le, n32_eq, n32_add, n32_sub, n32_mul, n32_m1, m1_n32, n32_addm1, m1_lt, lt_m1, m1_le, le_m1, m1_add1, ofNat_n32, u2_self, u2_n, mk_I, mk_T, a1, a2]
          exact p2
        refine ok_ini d1 ?_
        by_cases d2 : x2 = 2
        · refine ok_ipi d2 (ok_some (rstart _ (fun f2 hN2 hv => skip _ f2 _ none ?_)))
          unfold J_X12_bought_63
          refine ok_ini d0 (ok_ini d1 (ok_ipi d2 ?_))
          have a2 : f2 273 b = n32 (nl b) := (hv _ _ (vP (by omega))).trans (h6.2.2.1 b (by omega)).2
          with_reducible refine ok_cOi (by first | assumption | omega | (simp (disch := omega) only [n32_of, neg_n32_1, n32_nat, n32_lt, n32_le, n32_eq, n32_add, n32_sub, n32_mul, n32_m1, m1_n32, n32_addm1, m1_lt, lt_m1, m1_le, le_m1, m1_add1, ofNat_n32, u2_self, u2_n, mk_I, mk_T, ne_eq, not_true_eq_false, not_false_eq_true, ]; first | done | omega)) ?_
          refine ok_some ⟨?_, rfl⟩
          simp (disch := omega) only [n32_of, neg_n32_1, n32_nat, n32_lt, n32_le, n32_eq, n32_add, n32_sub, n32_mul, n32_m1, m1_n32, n32_addm1, m1_lt, lt_m1, m1_le, le_m1, m1_add1, ofNat_n32, u2_self, u2_n, mk_I, mk_T, a2]
          exact p5
        refine ok_ini d2 ?_
        refine ok_some (rstart _ (fun f2 hN2 hv => skip _ f2 _ none ?_))
        unfold J_X12_bought_63
        exact ok_ini d0 (ok_ini d1 (ok_ini d2 (ok_some ⟨rfl, rfl⟩)))
  · with_reducible refine ok_ini ?_ ?_
    · rw [mk_I, e3]
      exact hb
    refine ok_some (hQ _ _ (fail ?_))
    unfold F_X12_bought
    simp only [s_isBuyer, oB_s, bI_0, bI_n0]
    with_reducible refine ok_ini ?_ ?_
    · rw [mk_I, e43]
      exact hb
    exact ok_some ⟨rfl, rfl⟩
def gB (D : HD) (dr : Nat → SR) (b l : Nat) : Int32 := if lo D 0 l = b then n32 (brP D l (dr l)) else n32 0
set_option maxHeartbeats 400000 in
theorem op_gets (hN : 1000 ≤ N) (x1 : Int32) (hI : IVx σ f len D Y s dr st le ha sp nl rt lw) : Same σ (F_X11_gets N x1) (F_X12_gets N x1) f := by
  have hI0 := hI
  obtain ⟨t, h2, h3, h4, h5, h6, h7, h8⟩ := hI
  have n24 := h3.1.1
  have e11 := h3.2.1.1
  have e37 := h3.2.2.1
  have e8 := h5.2.1
  have e53 := h5.2.2
  have fail : ∀ {R : Option (Int32 × aSt)}, Ok R (fun z σ2 => z = -1 ∧ σ2 = mk σ f) → Ok R (fun z σ2 => (-1 : Int32) = z ∧ ∃ f' W, σ2 = mk σ f' ∧ IV σ f' W) := fun h => ok_mono h (fun z σ2 q => ⟨q.1.symm, by rw [q.2]; exact IV_mk hI0⟩)
  refine same_q (fun Q hQ => ?_)
  unfold F_X11_gets J_X11_gets_27 J_X11_gets_28
  simp only [s_isBelow, oB_s, bI_0, bI_n0]
  cases s with
  | false =>
    with_reducible refine ok_ipi ?_ ?_
    · exact e8
    refine ok_some (hQ _ _ (fail ?_))
    unfold F_X12_gets J_X12_gets_16
    refine ok_ifi (fun _ => ok_some ⟨rfl, rfl⟩) (fun _ => ok_ifi (fun _ => ok_some ⟨rfl, rfl⟩) (fun _ => ?_))
    with_reducible refine ok_ini ?_ ?_
    · exact fun q => q e53
    exact ok_some ⟨rfl, rfl⟩
  | true =>
    with_reducible refine ok_ini ?_ ?_
    · rw [mk_I, e8]
      decide
    by_cases hv : ¬ x1 < 0 ∧ x1 < 6
    · obtain ⟨b, hb, rfl⟩ := rng_lt (b := 6) (by omega) hv.1 hv.2
      with_reducible refine ok_ini ?_ ?_
      · exact fun q => q hv
      have xl : ∀ n l, hn D < n + l → l ≤ hn D → Ok (H_X9_takingsOf_4 N n 101 (n32 b) (sumI (gB D dr b) l) (n32 l) (mk σ f)) (fun y σ' => y = sumI (gB D dr b) (hn D) ∧ σ' = mk σ f) := by
        intro n
        induction n with
        | zero => intro l h1 h2; omega
        | succ n ih =>
          intro l h1 h2
          rw [H_X9_takingsOf_4]
          by_cases hl : hn D ≤ l
          · with_reducible refine ok_ipi (by first | assumption | omega | (simp (disch := omega) only [n32_of, neg_n32_1, n32_nat, n32_lt, n32_le, n32_eq, n32_add, n32_sub, n32_mul, n32_m1, m1_n32, n32_addm1, m1_lt, lt_m1, m1_le, le_m1, m1_add1, ofNat_n32, u2_self, u2_n, mk_I, mk_T, ne_eq, not_true_eq_false, not_false_eq_true, e11]; first | done | omega)) ?_
            rw [show l = hn D by omega]
            exact ok_some ⟨rfl, rfl⟩
          · with_reducible refine ok_ini (by first | assumption | omega | (simp (disch := omega) only [n32_of, neg_n32_1, n32_nat, n32_lt, n32_le, n32_eq, n32_add, n32_sub, n32_mul, n32_m1, m1_n32, n32_addm1, m1_lt, lt_m1, m1_le, le_m1, m1_add1, ofNat_n32, u2_self, u2_n, mk_I, mk_T, ne_eq, not_true_eq_false, not_false_eq_true, e11]; first | done | omega)) ?_
            with_reducible refine ok_cOi (by first | assumption | omega | (simp (disch := omega) only [n32_of, neg_n32_1, n32_nat, n32_lt, n32_le, n32_eq, n32_add, n32_sub, n32_mul, n32_m1, m1_n32, n32_addm1, m1_lt, lt_m1, m1_le, le_m1, m1_add1, ofNat_n32, u2_self, u2_n, mk_I, mk_T, ne_eq, not_true_eq_false, not_false_eq_true, ]; first | done | omega)) ?_
            have dl := h3.1.2.2.1 l (by omega)
            have c0 : f (23 + l) 0 = n32 (lo D 0 l) := h3.2.1.2.2.1 0 l (by omega) (by omega)
            have w6 : f (105 + l) 6 = n32 (brP D l (dr l)) := ((h7 rfl).2.1 l (by omega)).1.2.2.2.2.2.2.1
            have nx := ih (l + 1) (by omega) (by omega)
            rw [sumI] at nx
            unfold J_X9_takingsOf_45
            by_cases e : lo D 0 l = b
            · rw [show gB D dr b l = n32 (brP D l (dr l)) from if_pos e] at nx
              with_reducible refine ok_ini (by first | assumption | omega | (simp (disch := omega) only [n32_of, neg_n32_1, n32_nat, n32_lt, n32_le, n32_eq, n32_add, n32_sub, n32_mul, n32_m1, m1_n32, n32_addm1, m1_lt, lt_m1, m1_le, le_m1, m1_add1, ofNat_n32, u2_self, u2_n, mk_I, mk_T, ne_eq, not_true_eq_false, not_false_eq_true, c0]; first | done | omega)) ?_
              with_reducible refine ok_cOi (by first | assumption | omega | (simp (disch := omega) only [n32_of, neg_n32_1, n32_nat, n32_lt, n32_le, n32_eq, n32_add, n32_sub, n32_mul, n32_m1, m1_n32, n32_addm1, m1_lt, lt_m1, m1_le, le_m1, m1_add1, ofNat_n32, u2_self, u2_n, mk_I, mk_T, ne_eq, not_true_eq_false, not_false_eq_true, ]; first | done | omega)) ?_
              simp (disch := omega) only [n32_of, neg_n32_1, n32_nat, n32_lt, n32_le, n32_eq, n32_add, n32_sub, n32_mul, n32_m1, m1_n32, n32_addm1, m1_lt, lt_m1, m1_le, le_m1, m1_add1, ofNat_n32, u2_self, u2_n, mk_I, mk_T, w6]
              exact nx
            · rw [show gB D dr b l = n32 0 from if_neg e] at nx
              with_reducible refine ok_ipi (by first | assumption | omega | (simp (disch := omega) only [n32_of, neg_n32_1, n32_nat, n32_lt, n32_le, n32_eq, n32_add, n32_sub, n32_mul, n32_m1, m1_n32, n32_addm1, m1_lt, lt_m1, m1_le, le_m1, m1_add1, ofNat_n32, u2_self, u2_n, mk_I, mk_T, ne_eq, not_true_eq_false, not_false_eq_true, c0]; first | done | omega)) ?_
              simp (disch := omega) only [n32_of, neg_n32_1, n32_nat, n32_lt, n32_le, n32_eq, n32_add, n32_sub, n32_mul, n32_m1, m1_n32, n32_addm1, m1_lt, lt_m1, m1_le, le_m1, m1_add1, ofNat_n32, u2_self, u2_n, mk_I, mk_T, ]
              exact nx
      have rl : ∀ n l, hn D < n + l → l ≤ hn D → Ok (H_X12_gets_22 N n (n32 b) (sumI (gB D dr b) l) (n32 l) (mk σ f)) (fun y σ' => y = sumI (gB D dr b) (hn D) ∧ σ' = mk σ f) := by
        intro n
        induction n with
        | zero => intro l h1 h2; omega
        | succ n ih =>
          intro l h1 h2
          rw [H_X12_gets_22]
          by_cases hl : hn D ≤ l
          · with_reducible refine ok_ipi (by first | assumption | omega | (simp (disch := omega) only [n32_of, neg_n32_1, n32_nat, n32_lt, n32_le, n32_eq, n32_add, n32_sub, n32_mul, n32_m1, m1_n32, n32_addm1, m1_lt, lt_m1, m1_le, le_m1, m1_add1, ofNat_n32, u2_self, u2_n, mk_I, mk_T, ne_eq, not_true_eq_false, not_false_eq_true, e37]; first | done | omega)) ?_
            rw [show l = hn D by omega]
            exact ok_some ⟨rfl, rfl⟩
          · with_reducible refine ok_ini (by first | assumption | omega | (simp (disch := omega) only [n32_of, neg_n32_1, n32_nat, n32_lt, n32_le, n32_eq, n32_add, n32_sub, n32_mul, n32_m1, m1_n32, n32_addm1, m1_lt, lt_m1, m1_le, le_m1, m1_add1, ofNat_n32, u2_self, u2_n, mk_I, mk_T, ne_eq, not_true_eq_false, not_false_eq_true, e37]; first | done | omega)) ?_
            with_reducible refine ok_cOi (by first | assumption | omega | (simp (disch := omega) only [n32_of, neg_n32_1, n32_nat, n32_lt, n32_le, n32_eq, n32_add, n32_sub, n32_mul, n32_m1, m1_n32, n32_addm1, m1_lt, lt_m1, m1_le, le_m1, m1_add1, ofNat_n32, u2_self, u2_n, mk_I, mk_T, ne_eq, not_true_eq_false, not_false_eq_true, ]; first | done | omega)) ?_
            have dl := h3.1.2.2.1 l (by omega)
            have c0 : f 259 l = n32 (lo D 0 l) := h3.2.2.2.2.1 0 l (by omega) (by omega)
            have w6 : f 293 l = n32 (brP D l (dr l)) := ((h7 rfl).2.1 l (by omega)).2.2.2.2.2.2.2
            have nx := ih (l + 1) (by omega) (by omega)
            rw [sumI] at nx
            unfold J_X12_gets_49
            by_cases e : lo D 0 l = b
            · rw [show gB D dr b l = n32 (brP D l (dr l)) from if_pos e] at nx
              with_reducible refine ok_ini (by first | assumption | omega | (simp (disch := omega) only [n32_of, neg_n32_1, n32_nat, n32_lt, n32_le, n32_eq, n32_add, n32_sub, n32_mul, n32_m1, m1_n32, n32_addm1, m1_lt, lt_m1, m1_le, le_m1, m1_add1, ofNat_n32, u2_self, u2_n, mk_I, mk_T, ne_eq, not_true_eq_false, not_false_eq_true, c0]; first | done | omega)) ?_
              with_reducible refine ok_cOi (by first | assumption | omega | (simp (disch := omega) only [n32_of, neg_n32_1, n32_nat, n32_lt, n32_le, n32_eq, n32_add, n32_sub, n32_mul, n32_m1, m1_n32, n32_addm1, m1_lt, lt_m1, m1_le, le_m1, m1_add1, ofNat_n32, u2_self, u2_n, mk_I, mk_T, ne_eq, not_true_eq_false, not_false_eq_true, ]; first | done | omega)) ?_
              simp (disch := omega) only [n32_of, neg_n32_1, n32_nat, n32_lt, n32_le, n32_eq, n32_add, n32_sub, n32_mul, n32_m1, m1_n32, n32_addm1, m1_lt, lt_m1, m1_le, le_m1, m1_add1, ofNat_n32, u2_self, u2_n, mk_I, mk_T, w6]
              exact nx
            · rw [show gB D dr b l = n32 0 from if_neg e, add_n0] at nx
              with_reducible refine ok_ipi (by first | assumption | omega | (simp (disch := omega) only [n32_of, neg_n32_1, n32_nat, n32_lt, n32_le, n32_eq, n32_add, n32_sub, n32_mul, n32_m1, m1_n32, n32_addm1, m1_lt, lt_m1, m1_le, le_m1, m1_add1, ofNat_n32, u2_self, u2_n, mk_I, mk_T, ne_eq, not_true_eq_false, not_false_eq_true, c0]; first | done | omega)) ?_
              simp (disch := omega) only [n32_of, neg_n32_1, n32_nat, n32_lt, n32_le, n32_eq, n32_add, n32_sub, n32_mul, n32_m1, m1_n32, n32_addm1, m1_lt, lt_m1, m1_le, le_m1, m1_add1, ofNat_n32, u2_self, u2_n, mk_I, mk_T, ]
              exact nx
      unfold F_X9_takingsOf
      refine ok_oB (ok_mono (xl N 0 (by omega) (by omega)) ?_)
      rintro y _ ⟨rfl, rfl⟩
      refine ok_some (hQ _ _ ?_)
      unfold F_X12_gets J_X12_gets_16
      with_reducible refine ok_ini (by first | assumption | omega | (simp (disch := omega) only [n32_of, neg_n32_1, n32_nat, n32_lt, n32_le, n32_eq, n32_add, n32_sub, n32_mul, n32_m1, m1_n32, n32_addm1, m1_lt, lt_m1, m1_le, le_m1, m1_add1, ofNat_n32, u2_self, u2_n, mk_I, mk_T, ne_eq, not_true_eq_false, not_false_eq_true, ]; first | done | omega)) ?_
      with_reducible refine ok_ini (by first | assumption | omega | (simp (disch := omega) only [n32_of, neg_n32_1, n32_nat, n32_lt, n32_le, n32_eq, n32_add, n32_sub, n32_mul, n32_m1, m1_n32, n32_addm1, m1_lt, lt_m1, m1_le, le_m1, m1_add1, ofNat_n32, u2_self, u2_n, mk_I, mk_T, ne_eq, not_true_eq_false, not_false_eq_true, ]; first | done | omega)) ?_
      with_reducible refine ok_ipi ?_ ?_
      · rw [mk_I, e53]
        decide
      refine ok_mono (rl N 0 (by omega) (by omega)) ?_
      rintro y _ ⟨rfl, rfl⟩
      exact ⟨rfl, IV_mk hI0⟩
    · with_reducible refine ok_ipi ?_ ?_
      · exact hv
      refine ok_some (hQ _ _ (fail ?_))
      unfold F_X12_gets J_X12_gets_16
      clear hI0 h2 h3 h4 h5 h6 h7 h8 t hQ
      repeat' (with_reducible refine ok_ifi (fun _ => ?_) (fun _ => ?_))
      all_goals first
        | exact ok_some ⟨rfl, rfl⟩
        | (exfalso; simp (disch := omega) only [n32_of, neg_n32_1, ofNat_n32, Int32.lt_iff_toInt_lt, Int32.le_iff_toInt_le, i32_eq, n32_toInt, m1_toInt, ne_eq, Decidable.not_not] at *; first | done | omega)
end OPS6
