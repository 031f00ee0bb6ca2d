/-! ===== the next day ===== -/
def bet (dr : Nat → SR) (l : Nat) (o : Option Nat) : Bool := match o with
  | none => true
  | some j => decide ((dr j).2.2.1 < (dr l).2.2.1) || (decide ((dr l).2.2.1 = (dr j).2.2.1) && decide ((dr l).2.2.2 < (dr j).2.2.2))
def lat (D : HD) (dr : Nat → SR) (k : Nat) : Nat → Option Nat
  | 0 => none
  | l + 1 => if lo D 1 l = k ∧ (dr l).1.isSome = true ∧ bet dr l (lat D dr k l) = true then some l else lat D dr k l
theorem lat_lt {D : HD} {dr : Nat → SR} {k : Nat} : ∀ {L j : Nat}, lat D dr k L = some j → j < L := by
  intro L
  induction L with
  | zero => intro j h; cases h
  | succ L ih =>
    intro j h
    rw [lat] at h
    split at h
    · cases h
      omega
    · have := ih h
      omega
theorem lat_y {D : HD} {dr : Nat → SR} {k l : Nat} (h1 : lo D 1 l = k) (h2 : (dr l).1.isSome = true) (h3 : bet dr l (lat D dr k l) = true) : lat D dr k (l + 1) = some l := by
  rw [lat, if_pos ⟨h1, h2, h3⟩]
theorem lat_n {D : HD} {dr : Nat → SR} {k l : Nat} (h : ¬ (lo D 1 l = k ∧ (dr l).1.isSome = true ∧ bet dr l (lat D dr k l) = true)) : lat D dr k (l + 1) = lat D dr k l := by
  rw [lat, if_neg h]
def laN (D : HD) (dr : Nat → SR) (k : Nat) : Int32 := match lat D dr k (hn D) with
  | none => la D k
  | some j => n32 (dr j).2.1
def LtX (f : pln) (D : HD) (dr : Nat → SR) : Prop := f 11 1 = n32 (hn D) ∧ ∀ l, l < hn D → f (23 + l) 1 = n32 (lo D 1 l) ∧ f (105 + l) 0 = oI (dr l).1 ∧ f (105 + l) 1 = n32 (dr l).2.1 ∧ f (105 + l) 2 = n32 (dr l).2.2.1 ∧ f (105 + l) 3 = n32 (dr l).2.2.2
def LtR (f : pln) (D : HD) (dr : Nat → SR) : Prop := f 235 37 = n32 (hn D) ∧ ∀ l, l < hn D → f 260 l = n32 (lo D 1 l) ∧ f 287 l = oI (dr l).1 ∧ f 288 l = n32 (dr l).2.1 ∧ f 289 l = n32 (dr l).2.2.1 ∧ f 290 l = n32 (dr l).2.2.2
section DAY
variable {N : Nat} {σ : aSt} {f : pln} {D : HD} {dr : Nat → SR}
theorem x_later {l j : Nat} (hd : dOK D dr) (hX : LtX f D dr) (hl : l < hn D) (hj : j < hn D) : F_X9_isLater N (105 + l) (105 + j) (mk σ f) = some (bB (bet dr l (some j)), mk σ f) := by
  obtain ⟨-, -, -, l2, l3⟩ := hX.2 l hl
  obtain ⟨-, -, -, j2, j3⟩ := hX.2 j hj
  have dl := hd l hl
  have dj := hd j hj
  unfold F_X9_isLater J_X9_isLater_33 J_X9_isLater_37 J_X9_isLater_38
  rw [cO_t nar_b0, cO_t nar_b1, mk_I, l2, l3, j2, j3]
  rw [show bet dr l (some j) = (decide ((dr j).2.2.1 < (dr l).2.2.1) || (decide ((dr l).2.2.1 = (dr j).2.2.1) && decide ((dr l).2.2.2 < (dr j).2.2.2))) from rfl]
  by_cases c1 : (dr j).2.2.1 < (dr l).2.2.1
  · rw [if_pos (by first | assumption | omega | (simp (disch := omega) only [n32_of, neg_n32_1, n32_nat, n32_lt, n32_le, n32_eq, n32_add, n32_sub, n32_mul, n32_m1, m1_n32, n32_addm1, m1_lt, lt_m1, m1_le, le_m1, m1_add1, ofNat_n32, u2_self, u2_n, mk_I, mk_T, ne_eq, not_true_eq_false, not_false_eq_true, ]; first | done | omega)), decide_eq_true c1]
    rfl
  · rw [if_neg (by first | assumption | omega | (simp (disch := omega) only [n32_of, neg_n32_1, n32_nat, n32_lt, n32_le, n32_eq, n32_add, n32_sub, n32_mul, n32_m1, m1_n32, n32_addm1, m1_lt, lt_m1, m1_le, le_m1, m1_add1, ofNat_n32, u2_self, u2_n, mk_I, mk_T, ne_eq, not_true_eq_false, not_false_eq_true, ]; first | done | omega)), decide_eq_false c1]
    by_cases c2 : (dr l).2.2.1 = (dr j).2.2.1
    · rw [if_neg (by first | assumption | omega | (simp (disch := omega) only [n32_of, neg_n32_1, n32_nat, n32_lt, n32_le, n32_eq, n32_add, n32_sub, n32_mul, n32_m1, m1_n32, n32_addm1, m1_lt, lt_m1, m1_le, le_m1, m1_add1, ofNat_n32, u2_self, u2_n, mk_I, mk_T, ne_eq, not_true_eq_false, not_false_eq_true, ]; first | done | omega)), decide_eq_true c2]
      by_cases c3 : (dr l).2.2.2 < (dr j).2.2.2
      · rw [if_neg (by first | assumption | omega | (simp (disch := omega) only [n32_of, neg_n32_1, n32_nat, n32_lt, n32_le, n32_eq, n32_add, n32_sub, n32_mul, n32_m1, m1_n32, n32_addm1, m1_lt, lt_m1, m1_le, le_m1, m1_add1, ofNat_n32, u2_self, u2_n, mk_I, mk_T, ne_eq, not_true_eq_false, not_false_eq_true, ]; first | done | omega)), decide_eq_true c3]
        rfl
      · rw [if_pos (by first | assumption | omega | (simp (disch := omega) only [n32_of, neg_n32_1, n32_nat, n32_lt, n32_le, n32_eq, n32_add, n32_sub, n32_mul, n32_m1, m1_n32, n32_addm1, m1_lt, lt_m1, m1_le, le_m1, m1_add1, ofNat_n32, u2_self, u2_n, mk_I, mk_T, ne_eq, not_true_eq_false, not_false_eq_true, ]; first | done | omega)), decide_eq_false c3]
        rfl
    · rw [if_pos (by first | assumption | omega | (simp (disch := omega) only [n32_of, neg_n32_1, n32_nat, n32_lt, n32_le, n32_eq, n32_add, n32_sub, n32_mul, n32_m1, m1_n32, n32_addm1, m1_lt, lt_m1, m1_le, le_m1, m1_add1, ofNat_n32, u2_self, u2_n, mk_I, mk_T, ne_eq, not_true_eq_false, not_false_eq_true, ]; first | done | omega)), decide_eq_false c2]
      rfl
theorem x_soldLast {k : Nat} (hN : 1000 ≤ N) (hD : HOK D) (hd : dOK D dr) (hX : LtX f D dr) (hk : k < 6) : Ok (F_X9_soldLast N 101 (n32 k) (mk σ f)) (fun y σ' => y = oI (lat D dr k (hn D)) ∧ σ' = mk σ f) := by
  have n24 := hD.1
  have m6 := hD.2.1
  have e11 := hX.1
  have lp : ∀ n l, hn D < n + l → l ≤ hn D → Ok (H_X9_soldLast_4 N n 101 (n32 k) (oI (lat D dr k l)) (n32 l) (mk σ f)) (fun y σ' => y = oI (lat D dr k (hn D)) ∧ σ' = mk σ f) := by
    intro n
    induction n with
    | zero => intro l h1 h2; omega
    | succ n ih =>
      intro l h1 h2
      rw [H_X9_soldLast_4]
      by_cases hl : hn D ≤ l
      · with_reducible refine ok_ipi (by first | assumption | omega | (simp (disch := omega) only [n32_of, neg_n32_1, n32_nat, n32_lt, n32_le, n32_eq, n32_add, n32_sub, n32_mul, n32_m1, m1_n32, n32_addm1, m1_lt, lt_m1, m1_le, le_m1, m1_add1, ofNat_n32, u2_self, u2_n, mk_I, mk_T, ne_eq, not_true_eq_false, not_false_eq_true, e11]; first | done | omega)) ?_
        rw [show l = hn D by omega]
        exact ok_some ⟨rfl, rfl⟩
      · with_reducible refine ok_ini (by first | assumption | omega | (simp (disch := omega) only [n32_of, neg_n32_1, n32_nat, n32_lt, n32_le, n32_eq, n32_add, n32_sub, n32_mul, n32_m1, m1_n32, n32_addm1, m1_lt, lt_m1, m1_le, le_m1, m1_add1, ofNat_n32, u2_self, u2_n, mk_I, mk_T, ne_eq, not_true_eq_false, not_false_eq_true, e11]; first | done | omega)) ?_
        with_reducible refine ok_cOi (by first | assumption | omega | (simp (disch := omega) only [n32_of, neg_n32_1, n32_nat, n32_lt, n32_le, n32_eq, n32_add, n32_sub, n32_mul, n32_m1, m1_n32, n32_addm1, m1_lt, lt_m1, m1_le, le_m1, m1_add1, ofNat_n32, u2_self, u2_n, mk_I, mk_T, ne_eq, not_true_eq_false, not_false_eq_true, ]; first | done | omega)) ?_
        obtain ⟨k1, o0, o1, o2, o3⟩ := hX.2 l (by omega)
        have dl := hD.2.2.1 l (by omega)
        have ddl := hd l (by omega)
        have nx := ih (l + 1) (by omega) (by omega)
        have skip : ¬ (lo D 1 l = k ∧ (dr l).1.isSome = true ∧ bet dr l (lat D dr k l) = true) → Ok (H_X9_soldLast_4 N n 101 (n32 k) (oI (lat D dr k l)) (n32 (l + 1)) (mk σ f)) (fun y σ' => y = oI (lat D dr k (hn D)) ∧ σ' = mk σ f) := fun h => by
          rw [lat_n h] at nx
          exact nx
        unfold J_X9_soldLast_47 J_X9_soldLast_48 J_X9_soldLast_78 J_X9_soldLast_80
        by_cases hkk : lo D 1 l = k
        · with_reducible refine ok_ini (by first | assumption | omega | (simp (disch := omega) only [n32_of, neg_n32_1, n32_nat, n32_lt, n32_le, n32_eq, n32_add, n32_sub, n32_mul, n32_m1, m1_n32, n32_addm1, m1_lt, lt_m1, m1_le, le_m1, m1_add1, ofNat_n32, u2_self, u2_n, mk_I, mk_T, ne_eq, not_true_eq_false, not_false_eq_true, k1]; first | done | omega)) ?_
          with_reducible refine ok_cOi (by first | assumption | omega | (simp (disch := omega) only [n32_of, neg_n32_1, n32_nat, n32_lt, n32_le, n32_eq, n32_add, n32_sub, n32_mul, n32_m1, m1_n32, n32_addm1, m1_lt, lt_m1, m1_le, le_m1, m1_add1, ofNat_n32, u2_self, u2_n, mk_I, mk_T, ne_eq, not_true_eq_false, not_false_eq_true, ]; first | done | omega)) ?_
          rw [s_isSold]
          refine ok_oB (ok_some ?_)
          cases hb : (dr l).1 with
          | none =>
            rw [hb] at o0
            rw [bI_f (by simp (disch := omega) only [n32_of, neg_n32_1, n32_nat, n32_lt, n32_le, n32_eq, n32_add, n32_sub, n32_mul, n32_m1, m1_n32, n32_addm1, m1_lt, lt_m1, m1_le, le_m1, m1_add1, ofNat_n32, u2_self, u2_n, mk_I, mk_T, o0, oI_n]; exact fun q => q rfl)]
            refine ok_ipi rfl (ok_ipi rfl ?_)
            simp (disch := omega) only [n32_of, neg_n32_1, n32_nat, n32_lt, n32_le, n32_eq, n32_add, n32_sub, n32_mul, n32_m1, m1_n32, n32_addm1, m1_lt, lt_m1, m1_le, le_m1, m1_add1, ofNat_n32, u2_self, u2_n, mk_I, mk_T, ]
            exact skip (fun q => by rw [hb] at q; cases q.2.1)
          | some b =>
            have hb6 := ddl.1 b hb
            rw [hb] at o0
            rw [bI_t (by simp (disch := omega) only [n32_of, neg_n32_1, n32_nat, n32_lt, n32_le, n32_eq, n32_add, n32_sub, n32_mul, n32_m1, m1_n32, n32_addm1, m1_lt, lt_m1, m1_le, le_m1, m1_add1, ofNat_n32, u2_self, u2_n, mk_I, mk_T, o0, oI_s]; exact fun q => by rw [n32_m1 (by omega)] at q; exact q)]
            refine ok_ini (by decide) (ok_ini (by decide) ?_)
            cases ho : lat D dr k l with
            | none =>
              refine ok_ipi rfl ?_
              simp (disch := omega) only [n32_of, neg_n32_1, n32_nat, n32_lt, n32_le, n32_eq, n32_add, n32_sub, n32_mul, n32_m1, m1_n32, n32_addm1, m1_lt, lt_m1, m1_le, le_m1, m1_add1, ofNat_n32, u2_self, u2_n, mk_I, mk_T, ]
              rw [lat_y hkk (by rw [hb]; rfl) (by rw [ho]; rfl)] at nx
              exact nx
            | some j =>
              have hj := lat_lt ho
              rw [oI_s]
              refine ok_ini (fun q => ?_) ?_
              · have q' : n32 j = m1 := q
                rw [n32_m1 (by omega)] at q'
                exact q'
              with_reducible refine ok_cOi (by first | assumption | omega | (simp (disch := omega) only [n32_of, neg_n32_1, n32_nat, n32_lt, n32_le, n32_eq, n32_add, n32_sub, n32_mul, n32_m1, m1_n32, n32_addm1, m1_lt, lt_m1, m1_le, le_m1, m1_add1, ofNat_n32, u2_self, u2_n, mk_I, mk_T, ne_eq, not_true_eq_false, not_false_eq_true, ]; first | done | omega)) ?_
              with_reducible refine ok_cOi (by first | assumption | omega | (simp (disch := omega) only [n32_of, neg_n32_1, n32_nat, n32_lt, n32_le, n32_eq, n32_add, n32_sub, n32_mul, n32_m1, m1_n32, n32_addm1, m1_lt, lt_m1, m1_le, le_m1, m1_add1, ofNat_n32, u2_self, u2_n, mk_I, mk_T, ne_eq, not_true_eq_false, not_false_eq_true, ]; first | done | omega)) ?_
              rw [n32_nat (by omega), n32_nat (by omega)]
              refine ok_oB (ok_eq (x_later hd hX (by omega) (by omega)) (ok_some ?_))
              rw [ho] at skip
              cases hbt : bet dr l (some j) with
              | false =>
                refine ok_ipi rfl ?_
                simp (disch := omega) only [n32_of, neg_n32_1, n32_nat, n32_lt, n32_le, n32_eq, n32_add, n32_sub, n32_mul, n32_m1, m1_n32, n32_addm1, m1_lt, lt_m1, m1_le, le_m1, m1_add1, ofNat_n32, u2_self, u2_n, mk_I, mk_T, ]
                exact skip (fun q => by rw [hbt] at q; cases q.2.2)
              | true =>
                refine ok_ini (by decide) ?_
                simp (disch := omega) only [n32_of, neg_n32_1, n32_nat, n32_lt, n32_le, n32_eq, n32_add, n32_sub, n32_mul, n32_m1, m1_n32, n32_addm1, m1_lt, lt_m1, m1_le, le_m1, m1_add1, ofNat_n32, u2_self, u2_n, mk_I, mk_T, ]
                rw [lat_y hkk (by rw [hb]; rfl) (by rw [ho]; exact hbt)] at nx
                exact nx
        · with_reducible refine ok_ipi (by first | assumption | omega | (simp (disch := omega) only [n32_of, neg_n32_1, n32_nat, n32_lt, n32_le, n32_eq, n32_add, n32_sub, n32_mul, n32_m1, m1_n32, n32_addm1, m1_lt, lt_m1, m1_le, le_m1, m1_add1, ofNat_n32, u2_self, u2_n, mk_I, mk_T, ne_eq, not_true_eq_false, not_false_eq_true, k1]; first | done | omega)) ?_
          refine ok_ipi rfl ?_
          simp (disch := omega) only [n32_of, neg_n32_1, n32_nat, n32_lt, n32_le, n32_eq, n32_add, n32_sub, n32_mul, n32_m1, m1_n32, n32_addm1, m1_lt, lt_m1, m1_le, le_m1, m1_add1, ofNat_n32, u2_self, u2_n, mk_I, mk_T, ]
          exact skip (fun q => hkk q.1)
  exact lp N 0 (by omega) (by omega)
theorem LtX_cg {f' : pln} (h : LtX f D dr) (hD : HOK D) (e : ∀ a j, a ≠ 14 → f' a j = f a j) : LtX f' D dr := by
  have n24 := hD.1
  refine ⟨(e _ _ (by omega)).trans h.1, fun l hl => ?_⟩
  obtain ⟨k1, o0, o1, o2, o3⟩ := h.2 l hl
  exact ⟨(e _ _ (by omega)).trans k1, (e _ _ (by omega)).trans o0, (e _ _ (by omega)).trans o1, (e _ _ (by omega)).trans o2, (e _ _ (by omega)).trans o3⟩
theorem x_notes (hN : 1000 ≤ N) (hD : HOK D) (hd : dOK D dr) (hX : LtX f D dr) (hla : ∀ k, k < 6 → f 14 k = la D k) : Ok (F_X9_noteLasts N 101 (mk σ f)) (fun _ σ' => ∃ f', σ' = mk σ f' ∧ (∀ a j, a ≠ 14 → f' a j = f a j) ∧ ∀ k, k < 6 → f' 14 k = laN D dr k) := by
  have n24 := hD.1
  have lp : ∀ n k (g : pln), 6 < n + k → k ≤ 6 → (∀ a j, a ≠ 14 → g a j = f a j) → (∀ j, j < k → g 14 j = laN D dr j) → (∀ j, k ≤ j → j < 6 → g 14 j = la D j) → Ok (H_X9_noteLasts_2 N n 101 (n32 k) (mk σ g)) (fun _ σ' => ∃ f', σ' = mk σ f' ∧ (∀ a j, a ≠ 14 → f' a j = f a j) ∧ ∀ k, k < 6 → f' 14 k = laN D dr k) := by
    intro n
    induction n with
    | zero => intro k g h1 h2; omega
    | succ n ih =>
      intro k g h1 h2 e z1 z2
      rw [H_X9_noteLasts_2]
      by_cases hk : 6 ≤ k
      · with_reducible refine ok_ipi (by first | assumption | omega | (simp (disch := omega) only [n32_of, neg_n32_1, n32_nat, n32_lt, n32_le, n32_eq, n32_add, n32_sub, n32_mul, n32_m1, m1_n32, n32_addm1, m1_lt, lt_m1, m1_le, le_m1, m1_add1, ofNat_n32, u2_self, u2_n, mk_I, mk_T, ne_eq, not_true_eq_false, not_false_eq_true, ]; first | done | omega)) ?_
        exact ok_some ⟨g, rfl, e, fun j hj => z1 j (by omega)⟩
      · with_reducible refine ok_ini (by first | assumption | omega | (simp (disch := omega) only [n32_of, neg_n32_1, n32_nat, n32_lt, n32_le, n32_eq, n32_add, n32_sub, n32_mul, n32_m1, m1_n32, n32_addm1, m1_lt, lt_m1, m1_le, le_m1, m1_add1, ofNat_n32, u2_self, u2_n, mk_I, mk_T, ne_eq, not_true_eq_false, not_false_eq_true, ]; first | done | omega)) ?_
        refine ok_oB (ok_mono (x_soldLast hN hD hd (LtX_cg hX hD e) (by omega)) ?_)
        rintro y _ ⟨rfl, rfl⟩
        unfold J_X9_noteLasts_37
        cases ho : lat D dr k (hn D) with
        | none =>
          refine ok_ipi rfl ?_
          simp (disch := omega) only [n32_of, neg_n32_1, n32_nat, n32_lt, n32_le, n32_eq, n32_add, n32_sub, n32_mul, n32_m1, m1_n32, n32_addm1, m1_lt, lt_m1, m1_le, le_m1, m1_add1, ofNat_n32, u2_self, u2_n, mk_I, mk_T, ]
          refine ih (k + 1) g (by omega) (by omega) e (fun j hj => ?_) (fun j p1 p2 => z2 j (by omega) p2)
          by_cases c : j = k
          · subst c
            rw [z2 j (Nat.le_refl _) (by omega)]
            unfold laN
            rw [ho]
          · exact z1 j (by omega)
        | some j0 =>
          have hj0 := lat_lt ho
          rw [oI_s]
          refine ok_ini (fun q => ?_) ?_
          · have q' : n32 j0 = m1 := q
            rw [n32_m1 (by omega)] at q'
            exact q'
          have o1 : g (101 + 4 + j0) 1 = n32 (dr j0).2.1 := (e _ _ (by omega)).trans (cel f (by omega) rfl (hX.2 j0 hj0).2.2.1)
          repeat (first | with_reducible refine ok_W ?_ | with_reducible refine ok_cOi (by first | assumption | omega | (simp (disch := omega) only [n32_of, neg_n32_1, n32_nat, n32_lt, n32_le, n32_eq, n32_add, n32_sub, n32_mul, n32_m1, m1_n32, n32_addm1, m1_lt, lt_m1, m1_le, le_m1, m1_add1, ofNat_n32, u2_self, u2_n, mk_I, mk_T, ne_eq, not_true_eq_false, not_false_eq_true, ]; first | done | omega)) ?_ | with_reducible refine ok_ipi (by first | assumption | omega | (simp (disch := omega) only [n32_of, neg_n32_1, n32_nat, n32_lt, n32_le, n32_eq, n32_add, n32_sub, n32_mul, n32_m1, m1_n32, n32_addm1, m1_lt, lt_m1, m1_le, le_m1, m1_add1, ofNat_n32, u2_self, u2_n, mk_I, mk_T, ne_eq, not_true_eq_false, not_false_eq_true, ]; first | done | omega)) ?_ | with_reducible refine ok_ini (by first | assumption | omega | (simp (disch := omega) only [n32_of, neg_n32_1, n32_nat, n32_lt, n32_le, n32_eq, n32_add, n32_sub, n32_mul, n32_m1, m1_n32, n32_addm1, m1_lt, lt_m1, m1_le, le_m1, m1_add1, ofNat_n32, u2_self, u2_n, mk_I, mk_T, ne_eq, not_true_eq_false, not_false_eq_true, ]; first | done | omega)) ?_)
          simp (disch := omega) only [n32_of, neg_n32_1, n32_nat, n32_lt, n32_le, n32_eq, n32_add, n32_sub, n32_mul, n32_m1, m1_n32, n32_addm1, m1_lt, lt_m1, m1_le, le_m1, m1_add1, ofNat_n32, u2_self, u2_n, mk_I, mk_T, o1]
          refine ih (k + 1) _ (by omega) (by omega) (fun a j h => (u2_n (Or.inl h)).trans (e a j h)) (fun j hj => ?_) (fun j p1 p2 => (u2_n (Or.inr (by omega))).trans (z2 j (by omega) p2))
          by_cases c : j = k
          · subst c
            rw [u2_self]
            unfold laN
            rw [ho]
          · rw [u2_n (Or.inr c)]
            exact z1 j (by omega)
  unfold F_X9_noteLasts
  exact lp N 0 f (by omega) (by omega) (fun _ _ _ => rfl) (fun j hj => absurd hj (Nat.not_lt_zero _)) (fun j _ hj => hla j hj)
end DAY
