section DAYR
variable {N : Nat} {σ : aSt} {D : HD} {dr : Nat → SR}
theorem LtR_cg {f f' : pln} (h : LtR f D dr) (e : ∀ a j, a ≠ 267 → f' a j = f a j) : LtR f' D dr := by
  refine ⟨(e _ _ (by omega)).trans h.1, fun l hl => ?_⟩
  obtain ⟨k1, o0, o1, o2, o3⟩ := h.2 l hl
  exact ⟨(e _ _ (by omega)).trans k1, (e _ _ (by omega)).trans o0, (e _ _ (by omega)).trans o1, (e _ _ (by omega)).trans o2, (e _ _ (by omega)).trans o3⟩
theorem r_late {k : Nat} {f : pln} {k11 : Int32 → aSt → Option (Int32 × aSt)} {Q : Int32 → aSt → Prop} (hD : HOK D) (hd : dOK D dr) (hR : LtR f D dr) (hk : k < 6) (hla : f 267 k = la D k) (hq : ∀ f' : pln, (∀ a j, ¬ (a = 267 ∧ j = k) → f' a j = f a j) → f' 267 k = laN D dr k → Ok (k11 (n32 (k + 1)) (mk σ f')) Q) : ∀ n l, hn D < n + l → l ≤ hn D → Ok (H_X12_day_21 N k11 n (n32 k) (oI (lat D dr k l)) (n32 l) (mk σ f)) Q := by
  have n24 := hD.1
  have m6 := hD.2.1
  have e37 := hR.1
  intro n
  induction n with
  | zero => intro l h1 h2; omega
  | succ n ih =>
    intro l h1 h2
    rw [H_X12_day_21]
    by_cases hl : hn D ≤ l
    · with_reducible refine ok_ipi (by first | assumption | omega | (simp (disch := omega) only [n32_of, neg_n32_1, n32_nat, n32_lt, n32_le, n32_eq, n32_add, n32_sub, n32_mul, n32_m1, m1_n32, n32_addm1, m1_lt, lt_m1, m1_le, le_m1, m1_add1, ofNat_n32, u2_self, u2_n, mk_I, mk_T, ne_eq, not_true_eq_false, not_false_eq_true, e37]; first | done | omega)) ?_
      rw [show l = hn D by omega]
      unfold J_X12_day_124
      cases ho : lat D dr k (hn D) with
      | none =>
        refine ok_ipi rfl ?_
        simp (disch := omega) only [n32_of, neg_n32_1, n32_nat, n32_lt, n32_le, n32_eq, n32_add, n32_sub, n32_mul, n32_m1, m1_n32, n32_addm1, m1_lt, lt_m1, m1_le, le_m1, m1_add1, ofNat_n32, u2_self, u2_n, mk_I, mk_T, ]
        refine hq f (fun _ _ _ => rfl) ?_
        unfold laN
        rw [ho]
        exact hla
      | some j =>
        have hj := lat_lt ho
        rw [oI_s]
        refine ok_ini (fun q => ?_) ?_
        · have q' : n32 j = m1 := q
          rw [n32_m1 (by omega)] at q'
          exact q'
        have o1 := (hR.2 j hj).2.2.1
        repeat (first | with_reducible refine ok_W ?_ | with_reducible refine ok_cOi (by first | assumption | omega | (simp (disch := omega) only [n32_of, neg_n32_1, n32_nat, n32_lt, n32_le, n32_eq, n32_add, n32_sub, n32_mul, n32_m1, m1_n32, n32_addm1, m1_lt, lt_m1, m1_le, le_m1, m1_add1, ofNat_n32, u2_self, u2_n, mk_I, mk_T, ne_eq, not_true_eq_false, not_false_eq_true, ]; first | done | omega)) ?_ | with_reducible refine ok_ipi (by first | assumption | omega | (simp (disch := omega) only [n32_of, neg_n32_1, n32_nat, n32_lt, n32_le, n32_eq, n32_add, n32_sub, n32_mul, n32_m1, m1_n32, n32_addm1, m1_lt, lt_m1, m1_le, le_m1, m1_add1, ofNat_n32, u2_self, u2_n, mk_I, mk_T, ne_eq, not_true_eq_false, not_false_eq_true, ]; first | done | omega)) ?_ | with_reducible refine ok_ini (by first | assumption | omega | (simp (disch := omega) only [n32_of, neg_n32_1, n32_nat, n32_lt, n32_le, n32_eq, n32_add, n32_sub, n32_mul, n32_m1, m1_n32, n32_addm1, m1_lt, lt_m1, m1_le, le_m1, m1_add1, ofNat_n32, u2_self, u2_n, mk_I, mk_T, ne_eq, not_true_eq_false, not_false_eq_true, ]; first | done | omega)) ?_)
        simp (disch := omega) only [n32_of, neg_n32_1, n32_nat, n32_lt, n32_le, n32_eq, n32_add, n32_sub, n32_mul, n32_m1, m1_n32, n32_addm1, m1_lt, lt_m1, m1_le, le_m1, m1_add1, ofNat_n32, u2_self, u2_n, mk_I, mk_T, o1]
        refine hq _ (fun a i h => u2_n (by omega)) ?_
        rw [u2_self]
        unfold laN
        rw [ho]
    · with_reducible refine ok_ini (by first | assumption | omega | (simp (disch := omega) only [n32_of, neg_n32_1, n32_nat, n32_lt, n32_le, n32_eq, n32_add, n32_sub, n32_mul, n32_m1, m1_n32, n32_addm1, m1_lt, lt_m1, m1_le, le_m1, m1_add1, ofNat_n32, u2_self, u2_n, mk_I, mk_T, ne_eq, not_true_eq_false, not_false_eq_true, e37]; first | done | omega)) ?_
      with_reducible refine ok_cOi (by first | assumption | omega | (simp (disch := omega) only [n32_of, neg_n32_1, n32_nat, n32_lt, n32_le, n32_eq, n32_add, n32_sub, n32_mul, n32_m1, m1_n32, n32_addm1, m1_lt, lt_m1, m1_le, le_m1, m1_add1, ofNat_n32, u2_self, u2_n, mk_I, mk_T, ne_eq, not_true_eq_false, not_false_eq_true, ]; first | done | omega)) ?_
      obtain ⟨k1, o0, o1, o2, o3⟩ := hR.2 l (by omega)
      have dl := hD.2.2.1 l (by omega)
      have ddl := hd l (by omega)
      have nx := ih (l + 1) (by omega) (by omega)
      have skip : ¬ (lo D 1 l = k ∧ (dr l).1.isSome = true ∧ bet dr l (lat D dr k l) = true) → Ok (H_X12_day_21 N k11 n (n32 k) (oI (lat D dr k l)) (n32 (l + 1)) (mk σ f)) Q := fun h => by
        rw [lat_n h] at nx
        exact nx
      unfold J_X12_day_99 J_X12_day_101
      by_cases hkk : lo D 1 l = k
      · with_reducible refine ok_ini (by first | assumption | omega | (simp (disch := omega) only [n32_of, neg_n32_1, n32_nat, n32_lt, n32_le, n32_eq, n32_add, n32_sub, n32_mul, n32_m1, m1_n32, n32_addm1, m1_lt, lt_m1, m1_le, le_m1, m1_add1, ofNat_n32, u2_self, u2_n, mk_I, mk_T, ne_eq, not_true_eq_false, not_false_eq_true, k1]; first | done | omega)) ?_
        with_reducible refine ok_cOi (by first | assumption | omega | (simp (disch := omega) only [n32_of, neg_n32_1, n32_nat, n32_lt, n32_le, n32_eq, n32_add, n32_sub, n32_mul, n32_m1, m1_n32, n32_addm1, m1_lt, lt_m1, m1_le, le_m1, m1_add1, ofNat_n32, u2_self, u2_n, mk_I, mk_T, ne_eq, not_true_eq_false, not_false_eq_true, ]; first | done | omega)) ?_
        cases hb : (dr l).1 with
        | none =>
          rw [hb] at o0
          with_reducible refine ok_ipi (by first | assumption | omega | (simp (disch := omega) only [n32_of, neg_n32_1, n32_nat, n32_lt, n32_le, n32_eq, n32_add, n32_sub, n32_mul, n32_m1, m1_n32, n32_addm1, m1_lt, lt_m1, m1_le, le_m1, m1_add1, ofNat_n32, u2_self, u2_n, mk_I, mk_T, ne_eq, not_true_eq_false, not_false_eq_true, o0, oI_n]; first | done | omega)) ?_
          simp (disch := omega) only [n32_of, neg_n32_1, n32_nat, n32_lt, n32_le, n32_eq, n32_add, n32_sub, n32_mul, n32_m1, m1_n32, n32_addm1, m1_lt, lt_m1, m1_le, le_m1, m1_add1, ofNat_n32, u2_self, u2_n, mk_I, mk_T, ]
          exact skip (fun q => by rw [hb] at q; cases q.2.1)
        | some b =>
          have hb6 := ddl.1 b hb
          rw [hb] at o0
          with_reducible refine ok_ini (by first | assumption | omega | (simp (disch := omega) only [n32_of, neg_n32_1, n32_nat, n32_lt, n32_le, n32_eq, n32_add, n32_sub, n32_mul, n32_m1, m1_n32, n32_addm1, m1_lt, lt_m1, m1_le, le_m1, m1_add1, ofNat_n32, u2_self, u2_n, mk_I, mk_T, ne_eq, not_true_eq_false, not_false_eq_true, o0, oI_s]; first | done | omega)) ?_
          cases ho : lat D dr k l with
          | none =>
            refine ok_ipi rfl ?_
            simp (disch := omega) only [n32_of, neg_n32_1, n32_nat, n32_lt, n32_le, n32_eq, n32_add, n32_sub, n32_mul, n32_m1, m1_n32, n32_addm1, m1_lt, lt_m1, m1_le, le_m1, m1_add1, ofNat_n32, u2_self, u2_n, mk_I, mk_T, ]
            rw [lat_y hkk (by rw [hb]; rfl) (by rw [ho]; rfl)] at nx
            exact nx
          | some j =>
            have hj := lat_lt ho
            rw [oI_s]
            refine ok_ini (fun q => ?_) ?_
            · have q' : n32 j = m1 := q
              rw [n32_m1 (by omega)] at q'
              exact q'
            obtain ⟨-, -, -, j2, j3⟩ := hR.2 j (by omega)
            have dj := hd j (by omega)
            have eb : bet dr l (some j) = (decide ((dr j).2.2.1 < (dr l).2.2.1) || (decide ((dr l).2.2.1 = (dr j).2.2.1) && decide ((dr l).2.2.2 < (dr j).2.2.2))) := rfl
            have yes : bet dr l (some j) = true → Ok (H_X12_day_21 N k11 n (n32 k) (n32 l) (n32 (l + 1)) (mk σ f)) Q := fun h => by
              rw [lat_y hkk (by rw [hb]; rfl) (by rw [ho]; exact h)] at nx
              exact nx
            rw [ho] at skip
            with_reducible refine ok_cOi (by first | assumption | omega | (simp (disch := omega) only [n32_of, neg_n32_1, n32_nat, n32_lt, n32_le, n32_eq, n32_add, n32_sub, n32_mul, n32_m1, m1_n32, n32_addm1, m1_lt, lt_m1, m1_le, le_m1, m1_add1, ofNat_n32, u2_self, u2_n, mk_I, mk_T, ne_eq, not_true_eq_false, not_false_eq_true, ]; first | done | omega)) ?_
            with_reducible refine ok_cOi (by first | assumption | omega | (simp (disch := omega) only [n32_of, neg_n32_1, n32_nat, n32_lt, n32_le, n32_eq, n32_add, n32_sub, n32_mul, n32_m1, m1_n32, n32_addm1, m1_lt, lt_m1, m1_le, le_m1, m1_add1, ofNat_n32, u2_self, u2_n, mk_I, mk_T, ne_eq, not_true_eq_false, not_false_eq_true, ]; first | done | omega)) ?_
            by_cases c1 : (dr j).2.2.1 < (dr l).2.2.1
            · with_reducible refine ok_ipi (by first | assumption | omega | (simp (disch := omega) only [n32_of, neg_n32_1, n32_nat, n32_lt, n32_le, n32_eq, n32_add, n32_sub, n32_mul, n32_m1, m1_n32, n32_addm1, m1_lt, lt_m1, m1_le, le_m1, m1_add1, ofNat_n32, u2_self, u2_n, mk_I, mk_T, ne_eq, not_true_eq_false, not_false_eq_true, o2, j2]; first | done | omega)) ?_
              simp (disch := omega) only [n32_of, neg_n32_1, n32_nat, n32_lt, n32_le, n32_eq, n32_add, n32_sub, n32_mul, n32_m1, m1_n32, n32_addm1, m1_lt, lt_m1, m1_le, le_m1, m1_add1, ofNat_n32, u2_self, u2_n, mk_I, mk_T, ]
              exact yes (by rw [eb, decide_eq_true c1]; rfl)
            · with_reducible refine ok_ini (by first | assumption | omega | (simp (disch := omega) only [n32_of, neg_n32_1, n32_nat, n32_lt, n32_le, n32_eq, n32_add, n32_sub, n32_mul, n32_m1, m1_n32, n32_addm1, m1_lt, lt_m1, m1_le, le_m1, m1_add1, ofNat_n32, u2_self, u2_n, mk_I, mk_T, ne_eq, not_true_eq_false, not_false_eq_true, o2, j2]; first | done | omega)) ?_
              with_reducible refine ok_cOi (by first | assumption | omega | (simp (disch := omega) only [n32_of, neg_n32_1, n32_nat, n32_lt, n32_le, n32_eq, n32_add, n32_sub, n32_mul, n32_m1, m1_n32, n32_addm1, m1_lt, lt_m1, m1_le, le_m1, m1_add1, ofNat_n32, u2_self, u2_n, mk_I, mk_T, ne_eq, not_true_eq_false, not_false_eq_true, ]; first | done | omega)) ?_
              with_reducible refine ok_cOi (by first | assumption | omega | (simp (disch := omega) only [n32_of, neg_n32_1, n32_nat, n32_lt, n32_le, n32_eq, n32_add, n32_sub, n32_mul, n32_m1, m1_n32, n32_addm1, m1_lt, lt_m1, m1_le, le_m1, m1_add1, ofNat_n32, u2_self, u2_n, mk_I, mk_T, ne_eq, not_true_eq_false, not_false_eq_true, ]; first | done | omega)) ?_
              by_cases c2 : (dr l).2.2.1 = (dr j).2.2.1
              · with_reducible refine ok_ini (by first | assumption | omega | (simp (disch := omega) only [n32_of, neg_n32_1, n32_nat, n32_lt, n32_le, n32_eq, n32_add, n32_sub, n32_mul, n32_m1, m1_n32, n32_addm1, m1_lt, lt_m1, m1_le, le_m1, m1_add1, ofNat_n32, u2_self, u2_n, mk_I, mk_T, ne_eq, not_true_eq_false, not_false_eq_true, o2, j2]; first | done | omega)) ?_
                with_reducible refine ok_cOi (by first | assumption | omega | (simp (disch := omega) only [n32_of, neg_n32_1, n32_nat, n32_lt, n32_le, n32_eq, n32_add, n32_sub, n32_mul, n32_m1, m1_n32, n32_addm1, m1_lt, lt_m1, m1_le, le_m1, m1_add1, ofNat_n32, u2_self, u2_n, mk_I, mk_T, ne_eq, not_true_eq_false, not_false_eq_true, ]; first | done | omega)) ?_
                with_reducible refine ok_cOi (by first | assumption | omega | (simp (disch := omega) only [n32_of, neg_n32_1, n32_nat, n32_lt, n32_le, n32_eq, n32_add, n32_sub, n32_mul, n32_m1, m1_n32, n32_addm1, m1_lt, lt_m1, m1_le, le_m1, m1_add1, ofNat_n32, u2_self, u2_n, mk_I, mk_T, ne_eq, not_true_eq_false, not_false_eq_true, ]; first | done | omega)) ?_
                by_cases c3 : (dr l).2.2.2 < (dr j).2.2.2
                · with_reducible refine ok_ini (by first | assumption | omega | (simp (disch := omega) only [n32_of, neg_n32_1, n32_nat, n32_lt, n32_le, n32_eq, n32_add, n32_sub, n32_mul, n32_m1, m1_n32, n32_addm1, m1_lt, lt_m1, m1_le, le_m1, m1_add1, ofNat_n32, u2_self, u2_n, mk_I, mk_T, ne_eq, not_true_eq_false, not_false_eq_true, o3, j3]; first | done | omega)) ?_
                  simp (disch := omega) only [n32_of, neg_n32_1, n32_nat, n32_lt, n32_le, n32_eq, n32_add, n32_sub, n32_mul, n32_m1, m1_n32, n32_addm1, m1_lt, lt_m1, m1_le, le_m1, m1_add1, ofNat_n32, u2_self, u2_n, mk_I, mk_T, ]
                  exact yes (by rw [eb, decide_eq_true c2, decide_eq_true c3]; simp)
                · with_reducible refine ok_ipi (by first | assumption | omega | (simp (disch := omega) only [n32_of, neg_n32_1, n32_nat, n32_lt, n32_le, n32_eq, n32_add, n32_sub, n32_mul, n32_m1, m1_n32, n32_addm1, m1_lt, lt_m1, m1_le, le_m1, m1_add1, ofNat_n32, u2_self, u2_n, mk_I, mk_T, ne_eq, not_true_eq_false, not_false_eq_true, o3, j3]; first | done | omega)) ?_
                  simp (disch := omega) only [n32_of, neg_n32_1, n32_nat, n32_lt, n32_le, n32_eq, n32_add, n32_sub, n32_mul, n32_m1, m1_n32, n32_addm1, m1_lt, lt_m1, m1_le, le_m1, m1_add1, ofNat_n32, u2_self, u2_n, mk_I, mk_T, ]
                  exact skip (fun q => by rw [eb, decide_eq_false c1, decide_eq_false c3] at q; simp at q)
              · with_reducible refine ok_ipi (by first | assumption | omega | (simp (disch := omega) only [n32_of, neg_n32_1, n32_nat, n32_lt, n32_le, n32_eq, n32_add, n32_sub, n32_mul, n32_m1, m1_n32, n32_addm1, m1_lt, lt_m1, m1_le, le_m1, m1_add1, ofNat_n32, u2_self, u2_n, mk_I, mk_T, ne_eq, not_true_eq_false, not_false_eq_true, o2, j2]; first | done | omega)) ?_
                simp (disch := omega) only [n32_of, neg_n32_1, n32_nat, n32_lt, n32_le, n32_eq, n32_add, n32_sub, n32_mul, n32_m1, m1_n32, n32_addm1, m1_lt, lt_m1, m1_le, le_m1, m1_add1, ofNat_n32, u2_self, u2_n, mk_I, mk_T, ]
                exact skip (fun q => by rw [eb, decide_eq_false c1, decide_eq_false c2] at q; simp at q)
      · with_reducible refine ok_ipi (by first | assumption | omega | (simp (disch := omega) only [n32_of, neg_n32_1, n32_nat, n32_lt, n32_le, n32_eq, n32_add, n32_sub, n32_mul, n32_m1, m1_n32, n32_addm1, m1_lt, lt_m1, m1_le, le_m1, m1_add1, ofNat_n32, u2_self, u2_n, mk_I, mk_T, ne_eq, not_true_eq_false, not_false_eq_true, k1]; first | done | omega)) ?_
        simp (disch := omega) only [n32_of, neg_n32_1, n32_nat, n32_lt, n32_le, n32_eq, n32_add, n32_sub, n32_mul, n32_m1, m1_n32, n32_addm1, m1_lt, lt_m1, m1_le, le_m1, m1_add1, ofNat_n32, u2_self, u2_n, mk_I, mk_T, ]
        exact skip (fun q => hkk q.1)
/-- the reference's next day -/
theorem r_day {f : pln} (hN : 1000 ≤ N) (hD : HOK D) (hd : dOK D dr) (hR : LtR f D dr) (hla : ∀ k, k < 6 → f 267 k = la D k) (h53 : f 235 53 = n32 1) : Ok (F_X12_day N (mk σ f)) (fun y σ' => y = f 235 52 + n32 1 ∧ ∃ f', σ' = mk σ f' ∧ (∀ a j, a ≠ 267 → ¬ (a = 235 ∧ (j = 37 ∨ j = 52 ∨ j = 53)) → ¬ (271 ≤ a ∧ a ≤ 273) → f' a j = f a j) ∧ (∀ k, k < 6 → f' 267 k = laN D dr k) ∧ f' 235 37 = n32 0 ∧ f' 235 53 = n32 0 ∧ f' 235 52 = f 235 52 + n32 1 ∧ (∀ k, k < 36 → f' 271 k = n32 0) ∧ ∀ b, b < 6 → f' 272 b = n32 0 ∧ f' 273 b = n32 0) := by
  have l3 : ∀ (n b : Nat) (g : pln), 6 < n + b → b ≤ 6 → (∀ a j, a ≠ 267 → ¬ (a = 235 ∧ (j = 37 ∨ j = 53)) → ¬ (271 ≤ a ∧ a ≤ 273) → g a j = f a j) → (∀ k, k < 6 → g 267 k = laN D dr k) → g 235 37 = n32 0 → g 235 53 = n32 0 → (∀ k, k < 36 → g 271 k = n32 0) → (∀ b', b' < b → g 272 b' = n32 0 ∧ g 273 b' = n32 0) → Ok (H_X12_day_163 N n (n32 b) (mk σ g)) (fun y σ' => y = f 235 52 + n32 1 ∧ ∃ f', σ' = mk σ f' ∧ (∀ a j, a ≠ 267 → ¬ (a = 235 ∧ (j = 37 ∨ j = 52 ∨ j = 53)) → ¬ (271 ≤ a ∧ a ≤ 273) → f' a j = f a j) ∧ (∀ k, k < 6 → f' 267 k = laN D dr k) ∧ f' 235 37 = n32 0 ∧ f' 235 53 = n32 0 ∧ f' 235 52 = f 235 52 + n32 1 ∧ (∀ k, k < 36 → f' 271 k = n32 0) ∧ ∀ b, b < 6 → f' 272 b = n32 0 ∧ f' 273 b = n32 0) := by
    intro n
    induction n with
    | zero => intro b g h1 h2; omega
    | succ n ih =>
      intro b g h1 h2 e z0 z1 z2 z3 z4
      rw [H_X12_day_163]
      by_cases hb : 6 ≤ b
      · have e52 : g 235 52 = f 235 52 := e _ _ (by omega) (by omega) (by omega)
        with_reducible refine ok_ipi (by first | assumption | omega | (simp (disch := omega) only [n32_of, neg_n32_1, n32_nat, n32_lt, n32_le, n32_eq, n32_add, n32_sub, n32_mul, n32_m1, m1_n32, n32_addm1, m1_lt, lt_m1, m1_le, le_m1, m1_add1, ofNat_n32, u2_self, u2_n, mk_I, mk_T, ne_eq, not_true_eq_false, not_false_eq_true, ]; first | done | omega)) ?_
        repeat (first | with_reducible refine ok_W ?_ | with_reducible refine ok_cOi (by first | assumption | omega | (simp (disch := omega) only [n32_of, neg_n32_1, n32_nat, n32_lt, n32_le, n32_eq, n32_add, n32_sub, n32_mul, n32_m1, m1_n32, n32_addm1, m1_lt, lt_m1, m1_le, le_m1, m1_add1, ofNat_n32, u2_self, u2_n, mk_I, mk_T, ne_eq, not_true_eq_false, not_false_eq_true, ]; first | done | omega)) ?_ | with_reducible refine ok_ipi (by first | assumption | omega | (simp (disch := omega) only [n32_of, neg_n32_1, n32_nat, n32_lt, n32_le, n32_eq, n32_add, n32_sub, n32_mul, n32_m1, m1_n32, n32_addm1, m1_lt, lt_m1, m1_le, le_m1, m1_add1, ofNat_n32, u2_self, u2_n, mk_I, mk_T, ne_eq, not_true_eq_false, not_false_eq_true, ]; first | done | omega)) ?_ | with_reducible refine ok_ini (by first | assumption | omega | (simp (disch := omega) only [n32_of, neg_n32_1, n32_nat, n32_lt, n32_le, n32_eq, n32_add, n32_sub, n32_mul, n32_m1, m1_n32, n32_addm1, m1_lt, lt_m1, m1_le, le_m1, m1_add1, ofNat_n32, u2_self, u2_n, mk_I, mk_T, ne_eq, not_true_eq_false, not_false_eq_true, ]; first | done | omega)) ?_)
        refine ok_some ⟨?_, _, rfl, fun a j p1 p2 p3 => (u2_n (by omega)).trans (e a j p1 (by omega) p3), fun k hk => (u2_n (by omega)).trans (z0 k hk), (u2_n (by omega)).trans z1, (u2_n (by omega)).trans z2, ?_, fun k hk => (u2_n (by omega)).trans (z3 k hk), fun b' hb' => ⟨(u2_n (by omega)).trans (z4 b' (by omega)).1, (u2_n (by omega)).trans (z4 b' (by omega)).2⟩⟩
        · rw [mk_I, u2_self, mk_I, e52]
          rfl
        · rw [u2_self, mk_I, e52]
          rfl
      · repeat (first | with_reducible refine ok_W ?_ | with_reducible refine ok_cOi (by first | assumption | omega | (simp (disch := omega) only [n32_of, neg_n32_1, n32_nat, n32_lt, n32_le, n32_eq, n32_add, n32_sub, n32_mul, n32_m1, m1_n32, n32_addm1, m1_lt, lt_m1, m1_le, le_m1, m1_add1, ofNat_n32, u2_self, u2_n, mk_I, mk_T, ne_eq, not_true_eq_false, not_false_eq_true, ]; first | done | omega)) ?_ | with_reducible refine ok_ipi (by first | assumption | omega | (simp (disch := omega) only [n32_of, neg_n32_1, n32_nat, n32_lt, n32_le, n32_eq, n32_add, n32_sub, n32_mul, n32_m1, m1_n32, n32_addm1, m1_lt, lt_m1, m1_le, le_m1, m1_add1, ofNat_n32, u2_self, u2_n, mk_I, mk_T, ne_eq, not_true_eq_false, not_false_eq_true, ]; first | done | omega)) ?_ | with_reducible refine ok_ini (by first | assumption | omega | (simp (disch := omega) only [n32_of, neg_n32_1, n32_nat, n32_lt, n32_le, n32_eq, n32_add, n32_sub, n32_mul, n32_m1, m1_n32, n32_addm1, m1_lt, lt_m1, m1_le, le_m1, m1_add1, ofNat_n32, u2_self, u2_n, mk_I, mk_T, ne_eq, not_true_eq_false, not_false_eq_true, ]; first | done | omega)) ?_)
        simp (disch := omega) only [n32_of, neg_n32_1, n32_nat, n32_lt, n32_le, n32_eq, n32_add, n32_sub, n32_mul, n32_m1, m1_n32, n32_addm1, m1_lt, lt_m1, m1_le, le_m1, m1_add1, ofNat_n32, u2_self, u2_n, mk_I, mk_T, ]
        refine ih (b + 1) _ (by omega) (by omega) (fun a j p1 p2 p3 => (u2_n (by omega)).trans ((u2_n (by omega)).trans (e a j p1 p2 p3))) (fun k hk => (u2_n (by omega)).trans ((u2_n (by omega)).trans (z0 k hk))) ((u2_n (by omega)).trans ((u2_n (by omega)).trans z1)) ((u2_n (by omega)).trans ((u2_n (by omega)).trans z2)) (fun k hk => (u2_n (by omega)).trans ((u2_n (by omega)).trans (z3 k hk))) (fun b' hb' => ?_)
        by_cases c : b' = b
        · subst c
          exact ⟨by simp (disch := omega) only [n32_of, neg_n32_1, n32_nat, n32_lt, n32_le, n32_eq, n32_add, n32_sub, n32_mul, n32_m1, m1_n32, n32_addm1, m1_lt, lt_m1, m1_le, le_m1, m1_add1, ofNat_n32, u2_self, u2_n, mk_I, mk_T, ], by simp (disch := omega) only [n32_of, neg_n32_1, n32_nat, n32_lt, n32_le, n32_eq, n32_add, n32_sub, n32_mul, n32_m1, m1_n32, n32_addm1, m1_lt, lt_m1, m1_le, le_m1, m1_add1, ofNat_n32, u2_self, u2_n, mk_I, mk_T, ]⟩
        · exact ⟨(u2_n (by omega)).trans ((u2_n (by omega)).trans (z4 b' (by omega)).1), (u2_n (by omega)).trans ((u2_n (by omega)).trans (z4 b' (by omega)).2)⟩
  have l2 : ∀ (n k : Nat) (g : pln), 36 < n + k → k ≤ 36 → (∀ a j, a ≠ 267 → ¬ (a = 235 ∧ (j = 37 ∨ j = 53)) → ¬ (271 ≤ a ∧ a ≤ 273) → g a j = f a j) → (∀ k, k < 6 → g 267 k = laN D dr k) → g 235 37 = n32 0 → g 235 53 = n32 0 → (∀ k', k' < k → g 271 k' = n32 0) → Ok (H_X12_day_142 N n (n32 k) (mk σ g)) (fun y σ' => y = f 235 52 + n32 1 ∧ ∃ f', σ' = mk σ f' ∧ (∀ a j, a ≠ 267 → ¬ (a = 235 ∧ (j = 37 ∨ j = 52 ∨ j = 53)) → ¬ (271 ≤ a ∧ a ≤ 273) → f' a j = f a j) ∧ (∀ k, k < 6 → f' 267 k = laN D dr k) ∧ f' 235 37 = n32 0 ∧ f' 235 53 = n32 0 ∧ f' 235 52 = f 235 52 + n32 1 ∧ (∀ k, k < 36 → f' 271 k = n32 0) ∧ ∀ b, b < 6 → f' 272 b = n32 0 ∧ f' 273 b = n32 0) := by
    intro n
    induction n with
    | zero => intro b g h1 h2; omega
    | succ n ih =>
      intro k g h1 h2 e z0 z1 z2 z3
      rw [H_X12_day_142]
      by_cases hb : 36 ≤ k
      · with_reducible refine ok_ipi (by first | assumption | omega | (simp (disch := omega) only [n32_of, neg_n32_1, n32_nat, n32_lt, n32_le, n32_eq, n32_add, n32_sub, n32_mul, n32_m1, m1_n32, n32_addm1, m1_lt, lt_m1, m1_le, le_m1, m1_add1, ofNat_n32, u2_self, u2_n, mk_I, mk_T, ne_eq, not_true_eq_false, not_false_eq_true, ]; first | done | omega)) ?_
        exact l3 N 0 g (by omega) (by omega) e z0 z1 z2 (fun k' hk' => z3 k' (by omega)) (fun b' hb' => absurd hb' (Nat.not_lt_zero _))
      · repeat (first | with_reducible refine ok_W ?_ | with_reducible refine ok_cOi (by first | assumption | omega | (simp (disch := omega) only [n32_of, neg_n32_1, n32_nat, n32_lt, n32_le, n32_eq, n32_add, n32_sub, n32_mul, n32_m1, m1_n32, n32_addm1, m1_lt, lt_m1, m1_le, le_m1, m1_add1, ofNat_n32, u2_self, u2_n, mk_I, mk_T, ne_eq, not_true_eq_false, not_false_eq_true, ]; first | done | omega)) ?_ | with_reducible refine ok_ipi (by first | assumption | omega | (simp (disch := omega) only [n32_of, neg_n32_1, n32_nat, n32_lt, n32_le, n32_eq, n32_add, n32_sub, n32_mul, n32_m1, m1_n32, n32_addm1, m1_lt, lt_m1, m1_le, le_m1, m1_add1, ofNat_n32, u2_self, u2_n, mk_I, mk_T, ne_eq, not_true_eq_false, not_false_eq_true, ]; first | done | omega)) ?_ | with_reducible refine ok_ini (by first | assumption | omega | (simp (disch := omega) only [n32_of, neg_n32_1, n32_nat, n32_lt, n32_le, n32_eq, n32_add, n32_sub, n32_mul, n32_m1, m1_n32, n32_addm1, m1_lt, lt_m1, m1_le, le_m1, m1_add1, ofNat_n32, u2_self, u2_n, mk_I, mk_T, ne_eq, not_true_eq_false, not_false_eq_true, ]; first | done | omega)) ?_)
        simp (disch := omega) only [n32_of, neg_n32_1, n32_nat, n32_lt, n32_le, n32_eq, n32_add, n32_sub, n32_mul, n32_m1, m1_n32, n32_addm1, m1_lt, lt_m1, m1_le, le_m1, m1_add1, ofNat_n32, u2_self, u2_n, mk_I, mk_T, ]
        refine ih (k + 1) _ (by omega) (by omega) (fun a j p1 p2 p3 => (u2_n (by omega)).trans (e a j p1 p2 p3)) (fun k hk => (u2_n (by omega)).trans (z0 k hk)) ((u2_n (by omega)).trans z1) ((u2_n (by omega)).trans z2) (fun k' hk' => ?_)
        by_cases c : k' = k
        · subst c
          rw [u2_self]
        · exact (u2_n (by omega)).trans (z3 k' (by omega))
  have l1 : ∀ (n k : Nat) (g : pln), 6 < n + k → k ≤ 6 → (∀ a j, a ≠ 267 → g a j = f a j) → (∀ j, j < k → g 267 j = laN D dr j) → (∀ j, k ≤ j → j < 6 → g 267 j = la D j) → Ok (H_X12_day_11 N n (n32 k) (mk σ g)) (fun y σ' => y = f 235 52 + n32 1 ∧ ∃ f', σ' = mk σ f' ∧ (∀ a j, a ≠ 267 → ¬ (a = 235 ∧ (j = 37 ∨ j = 52 ∨ j = 53)) → ¬ (271 ≤ a ∧ a ≤ 273) → f' a j = f a j) ∧ (∀ k, k < 6 → f' 267 k = laN D dr k) ∧ f' 235 37 = n32 0 ∧ f' 235 53 = n32 0 ∧ f' 235 52 = f 235 52 + n32 1 ∧ (∀ k, k < 36 → f' 271 k = n32 0) ∧ ∀ b, b < 6 → f' 272 b = n32 0 ∧ f' 273 b = n32 0) := by
    intro n
    induction n with
    | zero => intro b g h1 h2; omega
    | succ n ih =>
      intro k g h1 h2 e z1 z2
      rw [H_X12_day_11]
      by_cases hb : 6 ≤ k
      · with_reducible refine ok_ipi (by first | assumption | omega | (simp (disch := omega) only [n32_of, neg_n32_1, n32_nat, n32_lt, n32_le, n32_eq, n32_add, n32_sub, n32_mul, n32_m1, m1_n32, n32_addm1, m1_lt, lt_m1, m1_le, le_m1, m1_add1, ofNat_n32, u2_self, u2_n, mk_I, mk_T, ne_eq, not_true_eq_false, not_false_eq_true, ]; first | done | omega)) ?_
        repeat (first | with_reducible refine ok_W ?_ | with_reducible refine ok_cOi (by first | assumption | omega | (simp (disch := omega) only [n32_of, neg_n32_1, n32_nat, n32_lt, n32_le, n32_eq, n32_add, n32_sub, n32_mul, n32_m1, m1_n32, n32_addm1, m1_lt, lt_m1, m1_le, le_m1, m1_add1, ofNat_n32, u2_self, u2_n, mk_I, mk_T, ne_eq, not_true_eq_false, not_false_eq_true, ]; first | done | omega)) ?_ | with_reducible refine ok_ipi (by first | assumption | omega | (simp (disch := omega) only [n32_of, neg_n32_1, n32_nat, n32_lt, n32_le, n32_eq, n32_add, n32_sub, n32_mul, n32_m1, m1_n32, n32_addm1, m1_lt, lt_m1, m1_le, le_m1, m1_add1, ofNat_n32, u2_self, u2_n, mk_I, mk_T, ne_eq, not_true_eq_false, not_false_eq_true, ]; first | done | omega)) ?_ | with_reducible refine ok_ini (by first | assumption | omega | (simp (disch := omega) only [n32_of, neg_n32_1, n32_nat, n32_lt, n32_le, n32_eq, n32_add, n32_sub, n32_mul, n32_m1, m1_n32, n32_addm1, m1_lt, lt_m1, m1_le, le_m1, m1_add1, ofNat_n32, u2_self, u2_n, mk_I, mk_T, ne_eq, not_true_eq_false, not_false_eq_true, ]; first | done | omega)) ?_)
        simp (disch := omega) only [n32_of, neg_n32_1, n32_nat, n32_lt, n32_le, n32_eq, n32_add, n32_sub, n32_mul, n32_m1, m1_n32, n32_addm1, m1_lt, lt_m1, m1_le, le_m1, m1_add1, ofNat_n32, u2_self, u2_n, mk_I, mk_T, ]
        refine l2 N 0 _ (by omega) (by omega) (fun a j p1 p2 p3 => (u2_n (by omega)).trans ((u2_n (by omega)).trans (e a j p1))) (fun k hk => (u2_n (by omega)).trans ((u2_n (by omega)).trans (z1 k (by omega)))) (by simp (disch := omega) only [n32_of, neg_n32_1, n32_nat, n32_lt, n32_le, n32_eq, n32_add, n32_sub, n32_mul, n32_m1, m1_n32, n32_addm1, m1_lt, lt_m1, m1_le, le_m1, m1_add1, ofNat_n32, u2_self, u2_n, mk_I, mk_T, ]) (by simp (disch := omega) only [n32_of, neg_n32_1, n32_nat, n32_lt, n32_le, n32_eq, n32_add, n32_sub, n32_mul, n32_m1, m1_n32, n32_addm1, m1_lt, lt_m1, m1_le, le_m1, m1_add1, ofNat_n32, u2_self, u2_n, mk_I, mk_T, ]) (fun k' hk' => absurd hk' (Nat.not_lt_zero _))
      · with_reducible refine ok_ini (by first | assumption | omega | (simp (disch := omega) only [n32_of, neg_n32_1, n32_nat, n32_lt, n32_le, n32_eq, n32_add, n32_sub, n32_mul, n32_m1, m1_n32, n32_addm1, m1_lt, lt_m1, m1_le, le_m1, m1_add1, ofNat_n32, u2_self, u2_n, mk_I, mk_T, ne_eq, not_true_eq_false, not_false_eq_true, ]; first | done | omega)) ?_
        refine r_late hD hd (LtR_cg hR e) (by omega) (z2 k (Nat.le_refl _) (by omega)) (fun f' e' z' => ?_) N 0 (by have := hD.1; omega) (by omega)
        refine ih (k + 1) f' (by omega) (by omega) (fun a j p => (e' a j (by omega)).trans (e a j p)) (fun j hj => ?_) (fun j p1 p2 => (e' 267 j (by omega)).trans (z2 j (by omega) p2))
        by_cases c : j = k
        · subst c
          exact z'
        · exact (e' 267 j (by omega)).trans (z1 j (by omega))
  unfold F_X12_day
  with_reducible refine ok_ipi ?_ ?_
  · rw [mk_I, h53]
    decide
  exact l1 N 0 f (by omega) (by omega) (fun _ _ _ => rfl) (fun j hj => absurd hj (Nat.not_lt_zero _)) (fun j _ hj => hla j hj)
end DAYR
section OPD
variable {N : Nat} {σ : aSt} {f : pln} {len : Nat} {D : HD} {Y : LY} {s : Bool} {dr : Nat → SR} {st le : Nat → Nat} {ha : Nat → Nat → Nat} {sp nl : Nat → Nat} {rt : Nat → List Ru} {lw : Nat → Nat}
set_option maxHeartbeats 400000 in
theorem op_day (hN : 1000 ≤ N) (hI : IVx σ f len D Y s dr st le ha sp nl rt lw) : Same σ (F_X11_day N) (F_X12_day N) f := by
  have hI0 := hI
  obtain ⟨t, h2, h3, h4, h5, h6, h7, h8⟩ := hI
  have n24 := h3.1.1
  have m6 := h3.1.2.1
  have e8 := h5.2.1
  have e53 := h5.2.2
  have fail : ∀ {R : Option (Int32 × aSt)}, Ok R (fun z σ2 => z = -1 ∧ σ2 = mk σ f) → Ok R (fun z σ2 => (-1 : Int32) = z ∧ ∃ f' W, σ2 = mk σ f' ∧ IV σ f' W) := fun h => ok_mono h (fun z σ2 q => ⟨q.1.symm, by rw [q.2]; exact IV_mk hI0⟩)
  refine same_q (fun Q hQ => ?_)
  unfold F_X11_day
  cases s with
  | false =>
    with_reducible refine ok_ini ?_ ?_
    · exact fun q => q e8
    refine ok_some (hQ _ _ (fail ?_))
    unfold F_X12_day
    with_reducible refine ok_ini ?_ ?_
    · exact fun q => q e53
    exact ok_some ⟨rfl, rfl⟩
  | true =>
    with_reducible refine ok_ipi ?_ ?_
    · rw [mk_I, e8]
      decide
    obtain ⟨o1, o2, o3⟩ := h7 rfl
    have hX : LtX f D dr := ⟨h3.2.1.1, fun l hl => ⟨h3.2.1.2.2.1 1 l (by omega) hl, (o2 l hl).1.1, (o2 l hl).1.2.1, (o2 l hl).1.2.2.1, (o2 l hl).1.2.2.2.1⟩⟩
    refine ok_oB (ok_mono (x_notes hN h3.1 o1 hX h3.2.1.2.2.2.1) ?_)
    rintro _ _ ⟨f1, rfl, q1, q2⟩
    repeat (first | with_reducible refine ok_W ?_ | with_reducible refine ok_cOi (by first | assumption | omega | (simp (disch := omega) only [n32_of, neg_n32_1, n32_nat, n32_lt, n32_le, n32_eq, n32_add, n32_sub, n32_mul, n32_m1, m1_n32, n32_addm1, m1_lt, lt_m1, m1_le, le_m1, m1_add1, ofNat_n32, u2_self, u2_n, mk_I, mk_T, ne_eq, not_true_eq_false, not_false_eq_true, ]; first | done | omega)) ?_ | with_reducible refine ok_ipi (by first | assumption | omega | (simp (disch := omega) only [n32_of, neg_n32_1, n32_nat, n32_lt, n32_le, n32_eq, n32_add, n32_sub, n32_mul, n32_m1, m1_n32, n32_addm1, m1_lt, lt_m1, m1_le, le_m1, m1_add1, ofNat_n32, u2_self, u2_n, mk_I, mk_T, ne_eq, not_true_eq_false, not_false_eq_true, ]; first | done | omega)) ?_ | with_reducible refine ok_ini (by first | assumption | omega | (simp (disch := omega) only [n32_of, neg_n32_1, n32_nat, n32_lt, n32_le, n32_eq, n32_add, n32_sub, n32_mul, n32_m1, m1_n32, n32_addm1, m1_lt, lt_m1, m1_le, le_m1, m1_add1, ofNat_n32, u2_self, u2_n, mk_I, mk_T, ne_eq, not_true_eq_false, not_false_eq_true, ]; first | done | omega)) ?_)
    have hD' : HOK (0, hm D, lo D, laN D dr, wn D, cr D, tw D) := ⟨Nat.zero_le _, m6, fun i hi => absurd hi (Nat.not_lt_zero _), h3.1.2.2.2.1, h3.1.2.2.2.2⟩
    have hX' : HX (u2 f1 11 1 0) (0, hm D, lo D, laN D dr, wn D, cr D, tw D) := by
      obtain ⟨x1, x2, x3, x4, x5, x6⟩ := h3.2.1
      refine ⟨u2_self, (u2_n (by omega)).trans ((q1 _ _ (by omega)).trans x2), fun j i hj hi => absurd hi (Nat.not_lt_zero _), fun k hk => (u2_n (by omega)).trans (q2 k hk), fun b hb => ?_, fun b k hb hk => (u2_n (by omega)).trans ((q1 _ _ (by omega)).trans (x6 b k hb hk))⟩
      have hb' : b < hm D := hb
      exact ⟨(u2_n (by omega)).trans ((q1 _ _ (by omega)).trans (x5 b hb').1), (u2_n (by omega)).trans ((q1 _ _ (by omega)).trans (x5 b hb').2)⟩
    refine ok_oB (ok_mono (x_openP hN (Or.inl rfl) hD' hX') ?_)
    rintro _ _ ⟨f2, rfl, q3, q4⟩
    repeat (first | with_reducible refine ok_W ?_ | with_reducible refine ok_cOi (by first | assumption | omega | (simp (disch := omega) only [n32_of, neg_n32_1, n32_nat, n32_lt, n32_le, n32_eq, n32_add, n32_sub, n32_mul, n32_m1, m1_n32, n32_addm1, m1_lt, lt_m1, m1_le, le_m1, m1_add1, ofNat_n32, u2_self, u2_n, mk_I, mk_T, ne_eq, not_true_eq_false, not_false_eq_true, ]; first | done | omega)) ?_ | with_reducible refine ok_ipi (by first | assumption | omega | (simp (disch := omega) only [n32_of, neg_n32_1, n32_nat, n32_lt, n32_le, n32_eq, n32_add, n32_sub, n32_mul, n32_m1, m1_n32, n32_addm1, m1_lt, lt_m1, m1_le, le_m1, m1_add1, ofNat_n32, u2_self, u2_n, mk_I, mk_T, ne_eq, not_true_eq_false, not_false_eq_true, ]; first | done | omega)) ?_ | with_reducible refine ok_ini (by first | assumption | omega | (simp (disch := omega) only [n32_of, neg_n32_1, n32_nat, n32_lt, n32_le, n32_eq, n32_add, n32_sub, n32_mul, n32_m1, m1_n32, n32_addm1, m1_lt, lt_m1, m1_le, le_m1, m1_add1, ofNat_n32, u2_self, u2_n, mk_I, mk_T, ne_eq, not_true_eq_false, not_false_eq_true, ]; first | done | omega)) ?_)
    have a07 : f2 0 7 = f 235 52 := (q3 _ _ (by omega)).trans ((u2_n (by omega)).trans ((q1 _ _ (by omega)).trans h5.1))
    have fx : ∀ g : pln, g = u2 (u2 f2 0 8 0) 0 7 (aI (mk σ (u2 f2 0 8 0)) 0 7 + 1) → (∀ a k, a ≠ 14 → ¬ (a = 11 ∧ k = 1) → ¬ (129 ≤ a ∧ a < 141) → ¬ (a = 0 ∧ (k = 7 ∨ k = 8)) → g a k = f a k) ∧ (∀ k, k < 6 → g 14 k = laN D dr k) ∧ g 11 1 = n32 0 ∧ g 0 8 = n32 0 ∧ g 0 7 = f 235 52 + n32 1 ∧ ∀ b, b < hm D → OP g 101 b (n32 (cr D b)) := by
      intro g hg
      subst hg
      refine ⟨fun a k p1 p2 p3 p4 => ?_, fun k hk => ?_, ?_, ?_, ?_, fun b hb => ?_⟩
      · rw [u2_n (by omega), u2_n (by omega), q3 _ _ (by omega), u2_n (by omega), q1 _ _ p1]
      · rw [u2_n (by omega), u2_n (by omega), q3 _ _ (by omega), u2_n (by omega), q2 k hk]
      · rw [u2_n (by omega), u2_n (by omega), q3 _ _ (by omega), u2_self]
        rfl
      · rw [u2_n (by omega), u2_self]
        rfl
      · rw [u2_self, mk_I, u2_n (by omega), a07]
        rfl
      · obtain ⟨v0, v1, v2, v4, v5⟩ := q4 b hb
        exact ⟨(u2_n (by omega)).trans ((u2_n (by omega)).trans v0), (u2_n (by omega)).trans ((u2_n (by omega)).trans v1), (u2_n (by omega)).trans ((u2_n (by omega)).trans v2), (u2_n (by omega)).trans ((u2_n (by omega)).trans v4), fun k hk => (u2_n (by omega)).trans ((u2_n (by omega)).trans (v5 k hk))⟩
    generalize u2 (u2 f2 0 8 0) 0 7 (aI (mk σ (u2 f2 0 8 0)) 0 7 + 1) = f3 at fx ⊢
    obtain ⟨k1, k2, k3, k4, k5, k6⟩ := fx f3 rfl
    refine ok_some (hQ _ _ ?_)
    have hR : LtR f3 D dr := by
      refine ⟨(k1 _ _ (by omega) (by omega) (by omega) (by omega)).trans h3.2.2.1, fun l hl => ?_⟩
      obtain ⟨-, c0, c1, c2, c3, -⟩ := o2 l hl
      exact ⟨(k1 _ _ (by omega) (by omega) (by omega) (by omega)).trans (h3.2.2.2.2.1 1 l (by omega) hl), (k1 _ _ (by omega) (by omega) (by omega) (by omega)).trans c0, (k1 _ _ (by omega) (by omega) (by omega) (by omega)).trans c1, (k1 _ _ (by omega) (by omega) (by omega) (by omega)).trans c2, (k1 _ _ (by omega) (by omega) (by omega) (by omega)).trans c3⟩
    refine ok_mono (r_day hN h3.1 o1 hR (fun k hk => (k1 _ _ (by omega) (by omega) (by omega) (by omega)).trans (h3.2.2.2.2.2.1 k hk)) ((k1 _ _ (by omega) (by omega) (by omega) (by omega)).trans e53)) ?_
    rintro z _ ⟨rfl, f4, rfl, r1, r2, r3, r4, r5, r6, r7⟩
    have e52 : f3 235 52 = f 235 52 := k1 _ _ (by omega) (by omega) (by omega) (by omega)
    rw [e52] at r5 ⊢
    refine ⟨k5, IV_mk (len := len) (Y := Y) (s := false) (dr := dr) (st := st) (le := le) (D := (0, hm D, lo D, laN D dr, wn D, cr D, tw D)) (ha := fun _ _ => 0) (sp := fun _ => 0) (nl := fun _ => 0) (rt := rt) (lw := lw) ?_⟩
    have fr : ∀ a k, a ≠ 14 → a ≠ 267 → ¬ (a = 11 ∧ k = 1) → ¬ (129 ≤ a ∧ a < 141) → ¬ (a = 0 ∧ (k = 7 ∨ k = 8)) → ¬ (a = 235 ∧ (k = 37 ∨ k = 52 ∨ k = 53)) → ¬ (271 ≤ a ∧ a ≤ 273) → f4 a k = f a k := fun a k p1 p2 p3 p4 p5 p6 p7 => (r1 a k p2 p6 p7).trans (k1 a k p1 p3 p4 p5)
    have xr : ∀ a k, a < 235 → f4 a k = f3 a k := fun a k p => r1 a k (by omega) (by omega) (by omega)
    refine ⟨sTape_cg t (fun a k hk => fr a k (by omega) (by omega) (by omega) (by omega) (by omega) (by omega) (by omega)), sPl_cg h2 (fun a k hk => fr a k (by omega) (by omega) (by omega) (by omega) (by omega) (by omega) (by omega)), ⟨hD', ?_, ?_⟩, sLor_cg h4 (fun a k hk => fr a k (by omega) (by omega) (by omega) (by omega) (by omega) (by omega) (by omega)), ⟨?_, (xr _ _ (by omega)).trans k4, r4⟩, ⟨fun b hb => ?_, fun b k hb hk => r6 _ (by omega), fun b hb => r7 b hb, fun b hb => ⟨fun _ => rfl, rfl, rfl⟩, fun _ b => ⟨fun _ => rfl, rfl, rfl⟩⟩, fun q => Bool.noConfusion q, sTxt_cg h8 (fun a k hk => fr a k (by omega) (by omega) (by omega) (by omega) (by omega) (by omega) (by omega))⟩
    · obtain ⟨x1, x2, x3, x4, x5, x6⟩ := h3.2.1
      refine ⟨(xr _ _ (by omega)).trans k3, (fr _ _ (by omega) (by omega) (by omega) (by omega) (by omega) (by omega) (by omega)).trans x2, fun j i hj hi => absurd hi (Nat.not_lt_zero _), fun k hk => (xr _ _ (by omega)).trans (k2 k hk), fun b hb => ?_, fun b k hb hk => (fr _ _ (by omega) (by omega) (by omega) (by omega) (by omega) (by omega) (by omega)).trans (x6 b k hb hk)⟩
      have hb' : b < hm D := hb
      exact ⟨(fr _ _ (by omega) (by omega) (by omega) (by omega) (by omega) (by omega) (by omega)).trans (x5 b hb').1, (fr _ _ (by omega) (by omega) (by omega) (by omega) (by omega) (by omega) (by omega)).trans (x5 b hb').2⟩
    · obtain ⟨x1, x2, x3, x4, x5, x6⟩ := h3.2.2
      refine ⟨r3, (fr _ _ (by omega) (by omega) (by omega) (by omega) (by omega) (by omega) (by omega)).trans x2, fun j i hj hi => absurd hi (Nat.not_lt_zero _), fun k hk => r2 k hk, fun b hb => ?_, fun b k hb hk => (fr _ _ (by omega) (by omega) (by omega) (by omega) (by omega) (by omega) (by omega)).trans (x6 b k hb hk)⟩
      have hb' : b < hm D := hb
      exact ⟨(fr _ _ (by omega) (by omega) (by omega) (by omega) (by omega) (by omega) (by omega)).trans (x5 b hb').1, (fr _ _ (by omega) (by omega) (by omega) (by omega) (by omega) (by omega) (by omega)).trans (x5 b hb').2⟩
    · exact (xr _ _ (by omega)).trans (k5.trans r5.symm)
    · have hb' : b < hm D := hb
      obtain ⟨v0, v1, v2, v4, v5⟩ := k6 b hb'
      have z6 : sum6 (fun _ => 0) = 0 := rfl
      refine ⟨⟨fun k hk => Nat.zero_le _, Nat.zero_le _⟩, ⟨?_, fun k hk => ?_⟩, ?_, ?_⟩
      · exact (xr _ _ (by omega)).trans v0
      · exact (xr _ _ (by omega)).trans (v5 k hk)
      · exact (xr _ _ (by omega)).trans v1
      · exact (xr _ _ (by omega)).trans v2
end OPD
