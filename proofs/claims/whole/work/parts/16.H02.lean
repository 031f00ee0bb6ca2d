theorem i32_eq (x y : Int32) : (x = y) = (x.toInt = y.toInt) := propext Int32.toInt_inj.symm
theorem i32_rng (x : Int32) : (∃ i, i < 2147483648 ∧ x = n32 i) ∨ x < 0 := by
  by_cases h : x < 0
  · exact Or.inr h
  · have := Int32.toInt_lt x
    obtain ⟨i, h1, h2⟩ := n32_ex (b := 2147483648) h (by omega)
    exact Or.inl ⟨i, h1, h2⟩
section OPS
variable {N : Nat} {σ : aSt} {f : pln} {len : Nat} {D : HD} {Y : LY} {s : Bool} {dr : Nat → SR} {st le : Nat → Nat} {ha : Nat → Nat → Nat} {sp nl : Nat → Nat} {rt : Nat → List Ru} {lw : Nat → Nat}
theorem same_id {X R : aSt → Option (Int32 × aSt)} {y : Int32} (hI : IVx σ f len D Y s dr st le ha sp nl rt lw) (hX : X (mk σ f) = some (y, mk σ f)) (hR : R (mk σ f) = some (y, mk σ f)) : Same σ X R f := ⟨y, mk σ f, hX, y, mk σ f, hR, rfl, IV_mk hI⟩
theorem op_place (hI : IVx σ f len D Y s dr st le ha sp nl rt lw) : Same σ (F_X11_place N) (F_X12_place N) f := same_id (y := f 1 1) hI rfl (by
  have : f 1 1 = f 235 17 := hI.2.1
  rw [this]
  rfl)
theorem op_back (x : Int32) (hI : IVx σ f len D Y s dr st le ha sp nl rt lw) : Same σ (F_X11_back N x) (F_X12_back N x) f := by
  have hI0 := hI
  obtain ⟨⟨t1, t2, t3, t4⟩, h2, h3, h4, h5, h6, h7, h8⟩ := hI
  rcases i32_rng x with ⟨i, hi, rfl⟩ | hx
  · by_cases hle : i ≤ len
    · unfold Same F_X11_back F_X12_back
      repeat (first | with_reducible refine ok_W ?_ | with_reducible refine ok_cO (by first | assumption | omega | (simp (disch := omega) only [n32_of, neg_n32_1, n32_nat, n32_lt, n32_le, n32_eq, n32_add, n32_sub, n32_mul, n32_m1, m1_n32, n32_addm1, m1_lt, lt_m1, m1_le, le_m1, m1_add1, ofNat_n32, u2_self, u2_n, mk_I, mk_T, ne_eq, not_true_eq_false, not_false_eq_true, t2]; first | done | omega)) ?_ | with_reducible refine ok_ip (by first | assumption | omega | (simp (disch := omega) only [n32_of, neg_n32_1, n32_nat, n32_lt, n32_le, n32_eq, n32_add, n32_sub, n32_mul, n32_m1, m1_n32, n32_addm1, m1_lt, lt_m1, m1_le, le_m1, m1_add1, ofNat_n32, u2_self, u2_n, mk_I, mk_T, ne_eq, not_true_eq_false, not_false_eq_true, t2]; first | done | omega)) ?_ | with_reducible refine ok_in (by first | assumption | omega | (simp (disch := omega) only [n32_of, neg_n32_1, n32_nat, n32_lt, n32_le, n32_eq, n32_add, n32_sub, n32_mul, n32_m1, m1_n32, n32_addm1, m1_lt, lt_m1, m1_le, le_m1, m1_add1, ofNat_n32, u2_self, u2_n, mk_I, mk_T, ne_eq, not_true_eq_false, not_false_eq_true, t2]; first | done | omega)) ?_)
      refine ok_some ?_
      repeat (first | with_reducible refine ok_W ?_ | with_reducible refine ok_cO (by first | assumption | omega | (simp (disch := omega) only [n32_of, neg_n32_1, n32_nat, n32_lt, n32_le, n32_eq, n32_add, n32_sub, n32_mul, n32_m1, m1_n32, n32_addm1, m1_lt, lt_m1, m1_le, le_m1, m1_add1, ofNat_n32, u2_self, u2_n, mk_I, mk_T, ne_eq, not_true_eq_false, not_false_eq_true, t3, t2]; first | done | omega)) ?_ | with_reducible refine ok_ip (by first | assumption | omega | (simp (disch := omega) only [n32_of, neg_n32_1, n32_nat, n32_lt, n32_le, n32_eq, n32_add, n32_sub, n32_mul, n32_m1, m1_n32, n32_addm1, m1_lt, lt_m1, m1_le, le_m1, m1_add1, ofNat_n32, u2_self, u2_n, mk_I, mk_T, ne_eq, not_true_eq_false, not_false_eq_true, t3, t2]; first | done | omega)) ?_ | with_reducible refine ok_in (by first | assumption | omega | (simp (disch := omega) only [n32_of, neg_n32_1, n32_nat, n32_lt, n32_le, n32_eq, n32_add, n32_sub, n32_mul, n32_m1, m1_n32, n32_addm1, m1_lt, lt_m1, m1_le, le_m1, m1_add1, ofNat_n32, u2_self, u2_n, mk_I, mk_T, ne_eq, not_true_eq_false, not_false_eq_true, t3, t2]; first | done | omega)) ?_)
      refine ok_some ⟨?_, IV_mk (len := len - i) ⟨⟨by omega, ?_, ?_, ?_⟩, sPl_cg h2 ?_, sHall_cg h3 ?_, sLor_cg h4 ?_, sDay_cg h5 ?_, sPur_cg h3.1 h6 ?_, sOut_cg h3.1 h4.1 h7 ?_, sTxt_cg h8 ?_⟩⟩
      · simp (disch := omega) only [n32_of, neg_n32_1, n32_nat, n32_lt, n32_le, n32_eq, n32_add, n32_sub, n32_mul, n32_m1, m1_n32, n32_addm1, m1_lt, lt_m1, m1_le, le_m1, m1_add1, ofNat_n32, u2_self, u2_n, mk_I, mk_T, t2, t3]
      · simp (disch := omega) only [n32_of, neg_n32_1, n32_nat, n32_lt, n32_le, n32_eq, n32_add, n32_sub, n32_mul, n32_m1, m1_n32, n32_addm1, m1_lt, lt_m1, m1_le, le_m1, m1_add1, ofNat_n32, u2_self, u2_n, mk_I, mk_T, t2, t3]
      · simp (disch := omega) only [n32_of, neg_n32_1, n32_nat, n32_lt, n32_le, n32_eq, n32_add, n32_sub, n32_mul, n32_m1, m1_n32, n32_addm1, m1_lt, lt_m1, m1_le, le_m1, m1_add1, ofNat_n32, u2_self, u2_n, mk_I, mk_T, t2, t3]
      · intro j hj
        simp (disch := omega) only [n32_of, neg_n32_1, n32_nat, n32_lt, n32_le, n32_eq, n32_add, n32_sub, n32_mul, n32_m1, m1_n32, n32_addm1, m1_lt, lt_m1, m1_le, le_m1, m1_add1, ofNat_n32, u2_self, u2_n, mk_I, mk_T, ]
        exact t4 j (by omega)
      all_goals
        intro a k hak
        rw [u2_n (by omega), u2_n (by omega)]
    · refine same_id (y := -1) hI0 ?_ ?_
      · unfold F_X11_back J_X11_back_15
        rw [if_neg (by first | assumption | omega | (simp (disch := omega) only [n32_of, neg_n32_1, n32_nat, n32_lt, n32_le, n32_eq, n32_add, n32_sub, n32_mul, n32_m1, m1_n32, n32_addm1, m1_lt, lt_m1, m1_le, le_m1, m1_add1, ofNat_n32, u2_self, u2_n, mk_I, mk_T, ne_eq, not_true_eq_false, not_false_eq_true, ]; first | done | omega)), if_neg (by first | assumption | omega | (simp (disch := omega) only [n32_of, neg_n32_1, n32_nat, n32_lt, n32_le, n32_eq, n32_add, n32_sub, n32_mul, n32_m1, m1_n32, n32_addm1, m1_lt, lt_m1, m1_le, le_m1, m1_add1, ofNat_n32, u2_self, u2_n, mk_I, mk_T, ne_eq, not_true_eq_false, not_false_eq_true, t2]; first | done | omega))]
      · unfold F_X12_back J_X12_back_12
        rw [if_neg (by first | assumption | omega | (simp (disch := omega) only [n32_of, neg_n32_1, n32_nat, n32_lt, n32_le, n32_eq, n32_add, n32_sub, n32_mul, n32_m1, m1_n32, n32_addm1, m1_lt, lt_m1, m1_le, le_m1, m1_add1, ofNat_n32, u2_self, u2_n, mk_I, mk_T, ne_eq, not_true_eq_false, not_false_eq_true, ]; first | done | omega)), if_neg (by first | assumption | omega | (simp (disch := omega) only [n32_of, neg_n32_1, n32_nat, n32_lt, n32_le, n32_eq, n32_add, n32_sub, n32_mul, n32_m1, m1_n32, n32_addm1, m1_lt, lt_m1, m1_le, le_m1, m1_add1, ofNat_n32, u2_self, u2_n, mk_I, mk_T, ne_eq, not_true_eq_false, not_false_eq_true, t3]; first | done | omega))]
  · refine same_id (y := -1) hI0 ?_ ?_
    · unfold F_X11_back J_X11_back_15
      rw [if_pos hx]
    · unfold F_X12_back J_X12_back_12
      rw [if_pos hx]
theorem op_last (x : Int32) (hI : IVx σ f len D Y s dr st le ha sp nl rt lw) : Same σ (F_X11_last N x) (F_X12_last N x) f := by
  have h3 := hI.2.2.1
  rcases i32_rng x with ⟨i, hi, rfl⟩ | hx
  · by_cases hk : i < 6
    · have a := h3.2.1.2.2.2.1 i hk
      have b := h3.2.2.2.2.2.1 i hk
      refine same_id (y := f 14 i) hI ?_ ?_
      · unfold F_X11_last J_X11_last_22
        rw [s_isBelow, oB_s, if_neg (by rw [bI_0]; exact fun q => q ⟨by first | assumption | omega | (simp (disch := omega) only [n32_of, neg_n32_1, n32_nat, n32_lt, n32_le, n32_eq, n32_add, n32_sub, n32_mul, n32_m1, m1_n32, n32_addm1, m1_lt, lt_m1, m1_le, le_m1, m1_add1, ofNat_n32, u2_self, u2_n, mk_I, mk_T, ne_eq, not_true_eq_false, not_false_eq_true, ]; first | done | omega), by first | assumption | omega | (simp (disch := omega) only [n32_of, neg_n32_1, n32_nat, n32_lt, n32_le, n32_eq, n32_add, n32_sub, n32_mul, n32_m1, m1_n32, n32_addm1, m1_lt, lt_m1, m1_le, le_m1, m1_add1, ofNat_n32, u2_self, u2_n, mk_I, mk_T, ne_eq, not_true_eq_false, not_false_eq_true, ]; first | done | omega)⟩), cO_t (by first | assumption | omega | (simp (disch := omega) only [n32_of, neg_n32_1, n32_nat, n32_lt, n32_le, n32_eq, n32_add, n32_sub, n32_mul, n32_m1, m1_n32, n32_addm1, m1_lt, lt_m1, m1_le, le_m1, m1_add1, ofNat_n32, u2_self, u2_n, mk_I, mk_T, ne_eq, not_true_eq_false, not_false_eq_true, ]; first | done | omega))]
        simp (disch := omega) only [n32_of, neg_n32_1, n32_nat, n32_lt, n32_le, n32_eq, n32_add, n32_sub, n32_mul, n32_m1, m1_n32, n32_addm1, m1_lt, lt_m1, m1_le, le_m1, m1_add1, ofNat_n32, u2_self, u2_n, mk_I, mk_T, ]
      · unfold F_X12_last J_X12_last_17
        rw [s_isKind, oB_s, if_neg (by rw [bI_0]; exact fun q => q ⟨by first | assumption | omega | (simp (disch := omega) only [n32_of, neg_n32_1, n32_nat, n32_lt, n32_le, n32_eq, n32_add, n32_sub, n32_mul, n32_m1, m1_n32, n32_addm1, m1_lt, lt_m1, m1_le, le_m1, m1_add1, ofNat_n32, u2_self, u2_n, mk_I, mk_T, ne_eq, not_true_eq_false, not_false_eq_true, ]; first | done | omega), by first | assumption | omega | (simp (disch := omega) only [n32_of, neg_n32_1, n32_nat, n32_lt, n32_le, n32_eq, n32_add, n32_sub, n32_mul, n32_m1, m1_n32, n32_addm1, m1_lt, lt_m1, m1_le, le_m1, m1_add1, ofNat_n32, u2_self, u2_n, mk_I, mk_T, ne_eq, not_true_eq_false, not_false_eq_true, ]; first | done | omega)⟩), cO_t (by first | assumption | omega | (simp (disch := omega) only [n32_of, neg_n32_1, n32_nat, n32_lt, n32_le, n32_eq, n32_add, n32_sub, n32_mul, n32_m1, m1_n32, n32_addm1, m1_lt, lt_m1, m1_le, le_m1, m1_add1, ofNat_n32, u2_self, u2_n, mk_I, mk_T, ne_eq, not_true_eq_false, not_false_eq_true, ]; first | done | omega))]
        simp (disch := omega) only [n32_of, neg_n32_1, n32_nat, n32_lt, n32_le, n32_eq, n32_add, n32_sub, n32_mul, n32_m1, m1_n32, n32_addm1, m1_lt, lt_m1, m1_le, le_m1, m1_add1, ofNat_n32, u2_self, u2_n, mk_I, mk_T, ]
        rw [a, b]
    · refine same_id (y := 0) hI ?_ ?_
      · unfold F_X11_last J_X11_last_22
        rw [s_isBelow, oB_s, if_pos (by rw [bI_0]; exact fun q => absurd q.2 (by first | assumption | omega | (simp (disch := omega) only [n32_of, neg_n32_1, n32_nat, n32_lt, n32_le, n32_eq, n32_add, n32_sub, n32_mul, n32_m1, m1_n32, n32_addm1, m1_lt, lt_m1, m1_le, le_m1, m1_add1, ofNat_n32, u2_self, u2_n, mk_I, mk_T, ne_eq, not_true_eq_false, not_false_eq_true, ]; first | done | omega)))]
      · unfold F_X12_last J_X12_last_17
        rw [s_isKind, oB_s, if_pos (by rw [bI_0]; exact fun q => absurd q.2 (by first | assumption | omega | (simp (disch := omega) only [n32_of, neg_n32_1, n32_nat, n32_lt, n32_le, n32_eq, n32_add, n32_sub, n32_mul, n32_m1, m1_n32, n32_addm1, m1_lt, lt_m1, m1_le, le_m1, m1_add1, ofNat_n32, u2_self, u2_n, mk_I, mk_T, ne_eq, not_true_eq_false, not_false_eq_true, ]; first | done | omega)))]
  · refine same_id (y := 0) hI ?_ ?_
    · unfold F_X11_last J_X11_last_22
      rw [s_isBelow, oB_s, if_pos (by rw [bI_0]; exact fun q => q.1 hx)]
    · unfold F_X12_last J_X12_last_17
      rw [s_isKind, oB_s, if_pos (by rw [bI_0]; exact fun q => q.1 hx)]
theorem op_count (x : Int32) (hI : IVx σ f len D Y s dr st le ha sp nl rt lw) : Same σ (F_X11_count N x) (F_X12_count N x) f := by
  have hI0 := hI
  obtain ⟨t, h2, h3, h4, h5, h6, h7, h8⟩ := hI
  obtain ⟨q1, q2, q3, q4, q5⟩ := h8.2 0 (by omega)
  unfold Same F_X11_count F_X12_count J_X11_count_82 J_X12_count_76
  have fin : ∀ (R : Option (Int32 × aSt)) (y : Int32), R = some (y, mk σ f) → Ok R (fun z σ2 => y = z ∧ ∃ f' W, σ2 = mk σ f' ∧ IV σ f' W) := fun R y e => e ▸ ok_some ⟨rfl, IV_mk hI0⟩
  by_cases c0 : x = 0
  · rw [if_pos c0]
    refine ok_some (fin _ _ ?_)
    rw [if_pos c0]
    show some (f 235 37, mk σ f) = some (f 11 1, mk σ f)
    rw [h3.2.1.1, h3.2.2.1]
  rw [if_neg c0]
  by_cases c1 : x = 1
  · rw [if_pos c1]
    refine ok_some (fin _ _ ?_)
    rw [if_neg c0, if_pos c1]
    show some (f 235 43, mk σ f) = some (f 11 3, mk σ f)
    rw [h3.2.1.2.1, h3.2.2.2.1]
  rw [if_neg c1]
  by_cases c2 : x = 2
  · rw [if_pos c2]
    refine ok_some (fin _ _ ?_)
    rw [if_neg c0, if_neg c1, if_pos c2]
    show some (f 235 48, mk σ f) = some (f 0 6, mk σ f)
    rw [h4.2.1, h4.2.2.1]
  rw [if_neg c2]
  by_cases c3 : x = 3
  · rw [if_pos c3]
    refine ok_some (fin _ _ ?_)
    rw [if_neg c0, if_neg c1, if_neg c2, if_pos c3]
    show some (f 235 52, mk σ f) = some (f 0 7, mk σ f)
    rw [h5.1]
  rw [if_neg c3]
  by_cases c4 : x = 4
  · rw [if_pos c4]
    have a1 : aI (mk σ f) 0 8 = bB s := h5.2.1
    have a2 : aI (mk σ f) 235 53 = bB s := h5.2.2
    rw [a1]
    cases hs : s
    · with_reducible refine ok_ip ?_ ?_
      · rfl
      refine ok_some (fin _ _ ?_)
      rw [if_neg c0, if_neg c1, if_neg c2, if_neg c3, if_pos c4, a2, hs]
      rfl
    · with_reducible refine ok_in ?_ ?_
      · decide
      refine ok_some (fin _ _ ?_)
      rw [if_neg c0, if_neg c1, if_neg c2, if_neg c3, if_pos c4, a2, hs]
      rfl
  rw [if_neg c4]
  by_cases c5 : x = 5
  · rw [if_pos c5]
    refine ok_some (fin _ _ ?_)
    rw [if_neg c0, if_neg c1, if_neg c2, if_neg c3, if_neg c4, if_pos c5]
    have e1 : f (aTxt σ 11 5) 0 = n32 (rt 0).length := q2.1
    have hle := q1.1
    have hl2 : lw 0 < 2 := q3
    have e2 := (RPg_self q5).1
    rw [Nat.mul_zero, Nat.zero_add] at e2
    rw [cO_t (by first | assumption | omega | (simp (disch := omega) only [n32_of, neg_n32_1, n32_nat, n32_lt, n32_le, n32_eq, n32_add, n32_sub, n32_mul, n32_m1, m1_n32, n32_addm1, m1_lt, lt_m1, m1_le, le_m1, m1_add1, ofNat_n32, u2_self, u2_n, mk_I, mk_T, ne_eq, not_true_eq_false, not_false_eq_true, q4]; first | done | omega))]
    show some (f 244 (f 243 0).toNatClampNeg, mk σ f) = some (f (aTxt σ 11 5) 0, mk σ f)
    rw [q4, n32_nat (by omega), e1, e2]
  rw [if_neg c5]
  by_cases c6 : x = 6
  · rw [if_pos c6]
    refine ok_some (fin _ _ ?_)
    rw [if_neg c0, if_neg c1, if_neg c2, if_neg c3, if_neg c4, if_neg c5, if_pos c6]
    show some (f 235 2, mk σ f) = some (f 1 0, mk σ f)
    rw [t.2.1, t.2.2.1]
  rw [if_neg c6]
  refine ok_some (fin _ _ ?_)
  rw [if_neg c0, if_neg c1, if_neg c2, if_neg c3, if_neg c4, if_neg c5, if_neg c6]
theorem hall_lot {f f' : pln} {D : HD} {b : Nat → Nat} (h3 : sHall f D) (hn24 : hn D < 24) (hb : b 0 < 6 ∧ b 1 < 6 ∧ b 2 < 4 ∧ 1 ≤ b 3 ∧ b 3 ≤ 20 ∧ b 4 < 10) (e1 : ∀ a k, ftH a k → a ≠ 11 → a ≠ 235 → a ≠ 23 + hn D → ¬ (259 ≤ a ∧ a ≤ 263 ∧ k = hn D) → f' a k = f a k) (e2 : f' 11 1 = n32 (hn D + 1) ∧ f' 11 3 = f 11 3 ∧ f' 235 37 = n32 (hn D + 1) ∧ f' 235 43 = f 235 43) (e3 : ∀ j, j < 5 → f' (23 + hn D) j = n32 (b j) ∧ f' (259 + j) (hn D) = n32 (b j)) : sHall f' (hn D + 1, hm D, (fun j => fu (lo D j) (hn D) (b j)), D.2.2.2) := by
  obtain ⟨⟨d1, d2, d3, d4, d5⟩, ⟨x1, x2, x3, x4, x5, x6⟩, ⟨y1, y2, y3, y4, y5, y6⟩⟩ := h3
  refine ⟨⟨hn24, d2, fun i hi => ?_, d4, d5⟩, ⟨e2.1, e2.2.1.trans x2, fun j i hj hi => ?_, fun k hk => (e1 _ _ (by omega) (by omega) (by omega) (by omega) (by omega)).trans (x4 k hk), fun b hb => ?_, fun b k hb hk => (e1 _ _ (by omega) (by omega) (by omega) (by omega) (by omega)).trans (x6 b k hb hk)⟩, ⟨e2.2.2.1, e2.2.2.2.trans y2, fun j i hj hi => ?_, fun k hk => (e1 _ _ (by omega) (by omega) (by omega) (by omega) (by omega)).trans (y4 k hk), fun b hb => ?_, fun b k hb hk => (e1 _ _ (by omega) (by omega) (by omega) (by omega) (by omega)).trans (y6 b k hb hk)⟩⟩
  · have hi' : i < hn D + 1 := hi
    show fu (lo D 0) (hn D) (b 0) i < 6 ∧ fu (lo D 1) (hn D) (b 1) i < 6 ∧ fu (lo D 2) (hn D) (b 2) i < 4 ∧ 1 ≤ fu (lo D 3) (hn D) (b 3) i ∧ fu (lo D 3) (hn D) (b 3) i ≤ 20 ∧ fu (lo D 4) (hn D) (b 4) i < 10
    by_cases e : i = hn D
    · subst e
      rw [fu_at, fu_at, fu_at, fu_at, fu_at]
      exact hb
    · rw [fu_ne e, fu_ne e, fu_ne e, fu_ne e, fu_ne e]
      exact d3 i (by omega)
  · have hi' : i < hn D + 1 := hi
    show _ = n32 (fu (lo D j) (hn D) (b j) i)
    by_cases e : i = hn D
    · subst e
      rw [fu_at]
      exact (e3 j hj).1
    · rw [fu_ne e]
      exact (e1 _ _ (by omega) (by omega) (by omega) (by omega) (by omega)).trans (x3 j i hj (by omega))
  · have hb' : b < hm D := hb
    exact ⟨(e1 _ _ (by omega) (by omega) (by omega) (by omega) (by omega)).trans (x5 b hb).1, (e1 _ _ (by omega) (by omega) (by omega) (by omega) (by omega)).trans (x5 b hb).2⟩
  · have hi' : i < hn D + 1 := hi
    show _ = n32 (fu (lo D j) (hn D) (b j) i)
    by_cases e : i = hn D
    · subst e
      rw [fu_at]
      exact (e3 j hj).2
    · rw [fu_ne e]
      exact (e1 _ _ (by omega) (by omega) (by omega) (by omega) (by omega)).trans (y3 j i hj (by omega))
  · have hb' : b < hm D := hb
    exact ⟨(e1 _ _ (by omega) (by omega) (by omega) (by omega) (by omega)).trans (y5 b hb).1, (e1 _ _ (by omega) (by omega) (by omega) (by omega) (by omega)).trans (y5 b hb).2⟩
theorem op_lot (x1 x2 x3 x4 x5 : Int32) (hI : IVx σ f len D Y s dr st le ha sp nl rt lw) : Same σ (F_X11_lot N x1 x2 x3 x4 x5) (F_X12_lot N x1 x2 x3 x4 x5) f := by
  have hI0 := hI
  obtain ⟨t, h2, h3, h4, h5, h6, h7, h8⟩ := hI
  have n24 := h3.1.1
  have e11 := h3.2.1.1
  have e37 := h3.2.2.1
  have e8 := h5.2.1
  have e53 := h5.2.2
  have fail : ∀ {R : Option (Int32 × aSt)}, Ok R (fun z σ2 => z = -1 ∧ σ2 = mk σ f) → Ok R (fun z σ2 => (-1 : Int32) = z ∧ ∃ f' W, σ2 = mk σ f' ∧ IV σ f' W) := fun h => ok_mono h (fun z σ2 q => ⟨q.1.symm, by rw [q.2]; exact IV_mk hI0⟩)
  unfold Same F_X11_lot F_X12_lot J_X11_lot_35 J_X11_lot_58 J_X12_lot_66
  simp only [s_isBelow, s_isWithin, s_isKind, oB_s, bI_0, bI_n0]
  cases s with
  | true =>
    with_reducible refine ok_in ?_ ?_
    · rw [mk_I, e8]
      decide
    refine ok_some (fail ?_)
    with_reducible refine ok_if (fun hc => ?_) (fun hc => ?_)
    · exact ok_some ⟨rfl, rfl⟩
    · with_reducible refine ok_ip ?_ ?_
      · rw [mk_I, e53]
        decide
      exact ok_some ⟨rfl, rfl⟩
  | false =>
    with_reducible refine ok_ip ?_ ?_
    · rw [mk_I, e8]
      rfl
    by_cases hv : (¬ x1 < 0 ∧ x1 < 6) ∧ (¬ x2 < 0 ∧ x2 < 6) ∧ (¬ x3 < 0 ∧ x3 < 4) ∧ (¬ x4 < 1 ∧ ¬ 20 < x4) ∧ (¬ x5 < 0 ∧ x5 < 10)
    · obtain ⟨v1, v2, v3, v4, v5⟩ := hv
      obtain ⟨b1, g1, rfl⟩ := n32_ex (b := 6) v1.1 (by have := v1.2; rw [Int32.lt_iff_toInt_lt] at this; exact this)
      obtain ⟨b2, g2, rfl⟩ := n32_ex (b := 6) v2.1 (by have := v2.2; rw [Int32.lt_iff_toInt_lt] at this; exact this)
      obtain ⟨b3, g3, rfl⟩ := n32_ex (b := 4) v3.1 (by have := v3.2; rw [Int32.lt_iff_toInt_lt] at this; exact this)
      obtain ⟨b5, g5, rfl⟩ := n32_ex (b := 10) v5.1 (by have := v5.2; rw [Int32.lt_iff_toInt_lt] at this; exact this)
      obtain ⟨b4, g4, g4', rfl⟩ : ∃ i, 1 ≤ i ∧ i ≤ 20 ∧ x4 = n32 i := by
        have w1 := v4.1
        have w2 := v4.2
        rw [Int32.lt_iff_toInt_lt] at w1 w2
        have w1' : ¬ x4.toInt < 1 := w1
        have w2' : ¬ 20 < x4.toInt := w2
        refine ⟨x4.toInt.toNat, by omega, by omega, ?_⟩
        rw [← Int32.toInt_inj, n32_toInt (by omega)]
        omega
      with_reducible refine ok_in ?_ ?_
      · exact fun q => q v1
      with_reducible refine ok_in ?_ ?_
      · exact fun q => q v2
      with_reducible refine ok_ip ?_ ?_
      · exact v3
      with_reducible refine ok_in ?_ ?_
      · exact fun q => q v4
      with_reducible refine ok_ip ?_ ?_
      · exact v5
      unfold F_X2_land
      refine ok_oB ?_
      by_cases hn24 : hn D < 24
      · repeat (first | with_reducible refine ok_W ?_ | with_reducible refine ok_cO (by first | assumption | omega | (simp (disch := omega) only [n32_of, neg_n32_1, n32_nat, n32_lt, n32_le, n32_eq, n32_add, n32_sub, n32_mul, n32_m1, m1_n32, n32_addm1, m1_lt, lt_m1, m1_le, le_m1, m1_add1, ofNat_n32, u2_self, u2_n, mk_I, mk_T, ne_eq, not_true_eq_false, not_false_eq_true, e11]; first | done | omega)) ?_ | with_reducible refine ok_ip (by first | assumption | omega | (simp (disch := omega) only [n32_of, neg_n32_1, n32_nat, n32_lt, n32_le, n32_eq, n32_add, n32_sub, n32_mul, n32_m1, m1_n32, n32_addm1, m1_lt, lt_m1, m1_le, le_m1, m1_add1, ofNat_n32, u2_self, u2_n, mk_I, mk_T, ne_eq, not_true_eq_false, not_false_eq_true, e11]; first | done | omega)) ?_ | with_reducible refine ok_in (by first | assumption | omega | (simp (disch := omega) only [n32_of, neg_n32_1, n32_nat, n32_lt, n32_le, n32_eq, n32_add, n32_sub, n32_mul, n32_m1, m1_n32, n32_addm1, m1_lt, lt_m1, m1_le, le_m1, m1_add1, ofNat_n32, u2_self, u2_n, mk_I, mk_T, ne_eq, not_true_eq_false, not_false_eq_true, e11]; first | done | omega)) ?_)
        refine ok_some (ok_some ?_)
        repeat (first | with_reducible refine ok_W ?_ | with_reducible refine ok_cO (by first | assumption | omega | (simp (disch := omega) only [n32_of, neg_n32_1, n32_nat, n32_lt, n32_le, n32_eq, n32_add, n32_sub, n32_mul, n32_m1, m1_n32, n32_addm1, m1_lt, lt_m1, m1_le, le_m1, m1_add1, ofNat_n32, u2_self, u2_n, mk_I, mk_T, ne_eq, not_true_eq_false, not_false_eq_true, e37, e53, bB_f]; first | done | omega)) ?_ | with_reducible refine ok_ip (by first | assumption | omega | (simp (disch := omega) only [n32_of, neg_n32_1, n32_nat, n32_lt, n32_le, n32_eq, n32_add, n32_sub, n32_mul, n32_m1, m1_n32, n32_addm1, m1_lt, lt_m1, m1_le, le_m1, m1_add1, ofNat_n32, u2_self, u2_n, mk_I, mk_T, ne_eq, not_true_eq_false, not_false_eq_true, e37, e53, bB_f]; first | done | omega)) ?_ | with_reducible refine ok_in (by first | assumption | omega | (simp (disch := omega) only [n32_of, neg_n32_1, n32_nat, n32_lt, n32_le, n32_eq, n32_add, n32_sub, n32_mul, n32_m1, m1_n32, n32_addm1, m1_lt, lt_m1, m1_le, le_m1, m1_add1, ofNat_n32, u2_self, u2_n, mk_I, mk_T, ne_eq, not_true_eq_false, not_false_eq_true, e37, e53, bB_f]; first | done | omega)) ?_)
        simp (disch := omega) only [n32_of, neg_n32_1, n32_nat, n32_lt, n32_le, n32_eq, n32_add, n32_sub, n32_mul, n32_m1, m1_n32, n32_addm1, m1_lt, lt_m1, m1_le, le_m1, m1_add1, ofNat_n32, u2_self, u2_n, mk_I, mk_T, e11, e37]
        refine ok_some ⟨rfl, IV_mk (s := false) (dr := dr) (st := st) (le := le) ⟨sTape_cg t ?_, sPl_cg h2 ?_, hall_lot (b := fun j => if j = 0 then b1 else if j = 1 then b2 else if j = 2 then b3 else if j = 3 then b4 else b5) h3 hn24 ⟨g1, g2, g3, g4, g4', g5⟩ ?_ ⟨?_, ?_, ?_, ?_⟩ ?_, sLor_cg h4 ?_, sDay_cg h5 ?_, sPur_cg (D := D) h3.1 h6 ?_, fun q => Bool.noConfusion q, sTxt_cg h8 ?_⟩⟩
        · intro a k hak
          simp (disch := omega) only [n32_of, neg_n32_1, n32_nat, n32_lt, n32_le, n32_eq, n32_add, n32_sub, n32_mul, n32_m1, m1_n32, n32_addm1, m1_lt, lt_m1, m1_le, le_m1, m1_add1, ofNat_n32, u2_self, u2_n, mk_I, mk_T, ]
        · intro a k hak
          simp (disch := omega) only [n32_of, neg_n32_1, n32_nat, n32_lt, n32_le, n32_eq, n32_add, n32_sub, n32_mul, n32_m1, m1_n32, n32_addm1, m1_lt, lt_m1, m1_le, le_m1, m1_add1, ofNat_n32, u2_self, u2_n, mk_I, mk_T, ]
        · intro a k h1 h2 h3 h4 h5
          simp (disch := omega) only [n32_of, neg_n32_1, n32_nat, n32_lt, n32_le, n32_eq, n32_add, n32_sub, n32_mul, n32_m1, m1_n32, n32_addm1, m1_lt, lt_m1, m1_le, le_m1, m1_add1, ofNat_n32, u2_self, u2_n, mk_I, mk_T, ]
        · simp (disch := omega) only [n32_of, neg_n32_1, n32_nat, n32_lt, n32_le, n32_eq, n32_add, n32_sub, n32_mul, n32_m1, m1_n32, n32_addm1, m1_lt, lt_m1, m1_le, le_m1, m1_add1, ofNat_n32, u2_self, u2_n, mk_I, mk_T, ]
        · simp (disch := omega) only [n32_of, neg_n32_1, n32_nat, n32_lt, n32_le, n32_eq, n32_add, n32_sub, n32_mul, n32_m1, m1_n32, n32_addm1, m1_lt, lt_m1, m1_le, le_m1, m1_add1, ofNat_n32, u2_self, u2_n, mk_I, mk_T, ]
        · simp (disch := omega) only [n32_of, neg_n32_1, n32_nat, n32_lt, n32_le, n32_eq, n32_add, n32_sub, n32_mul, n32_m1, m1_n32, n32_addm1, m1_lt, lt_m1, m1_le, le_m1, m1_add1, ofNat_n32, u2_self, u2_n, mk_I, mk_T, ]
        · simp (disch := omega) only [n32_of, neg_n32_1, n32_nat, n32_lt, n32_le, n32_eq, n32_add, n32_sub, n32_mul, n32_m1, m1_n32, n32_addm1, m1_lt, lt_m1, m1_le, le_m1, m1_add1, ofNat_n32, u2_self, u2_n, mk_I, mk_T, ]
        · intro j hj
          rcases (show j = 0 ∨ j = 1 ∨ j = 2 ∨ j = 3 ∨ j = 4 by omega) with rfl | rfl | rfl | rfl | rfl
          · refine ⟨?_, ?_⟩ <;> simp (disch := omega) only [n32_of, neg_n32_1, n32_nat, n32_lt, n32_le, n32_eq, n32_add, n32_sub, n32_mul, n32_m1, m1_n32, n32_addm1, m1_lt, lt_m1, m1_le, le_m1, m1_add1, ofNat_n32, u2_self, u2_n, mk_I, mk_T, ] <;> rfl
          · refine ⟨?_, ?_⟩ <;> simp (disch := omega) only [n32_of, neg_n32_1, n32_nat, n32_lt, n32_le, n32_eq, n32_add, n32_sub, n32_mul, n32_m1, m1_n32, n32_addm1, m1_lt, lt_m1, m1_le, le_m1, m1_add1, ofNat_n32, u2_self, u2_n, mk_I, mk_T, ] <;> rfl
          · refine ⟨?_, ?_⟩ <;> simp (disch := omega) only [n32_of, neg_n32_1, n32_nat, n32_lt, n32_le, n32_eq, n32_add, n32_sub, n32_mul, n32_m1, m1_n32, n32_addm1, m1_lt, lt_m1, m1_le, le_m1, m1_add1, ofNat_n32, u2_self, u2_n, mk_I, mk_T, ] <;> rfl
          · refine ⟨?_, ?_⟩ <;> simp (disch := omega) only [n32_of, neg_n32_1, n32_nat, n32_lt, n32_le, n32_eq, n32_add, n32_sub, n32_mul, n32_m1, m1_n32, n32_addm1, m1_lt, lt_m1, m1_le, le_m1, m1_add1, ofNat_n32, u2_self, u2_n, mk_I, mk_T, ] <;> rfl
          · refine ⟨?_, ?_⟩ <;> simp (disch := omega) only [n32_of, neg_n32_1, n32_nat, n32_lt, n32_le, n32_eq, n32_add, n32_sub, n32_mul, n32_m1, m1_n32, n32_addm1, m1_lt, lt_m1, m1_le, le_m1, m1_add1, ofNat_n32, u2_self, u2_n, mk_I, mk_T, ] <;> rfl
        all_goals
          intro a k hak
          simp (disch := omega) only [n32_of, neg_n32_1, n32_nat, n32_lt, n32_le, n32_eq, n32_add, n32_sub, n32_mul, n32_m1, m1_n32, n32_addm1, m1_lt, lt_m1, m1_le, le_m1, m1_add1, ofNat_n32, u2_self, u2_n, mk_I, mk_T, ]
      · with_reducible refine ok_in (by first | assumption | omega | (simp (disch := omega) only [n32_of, neg_n32_1, n32_nat, n32_lt, n32_le, n32_eq, n32_add, n32_sub, n32_mul, n32_m1, m1_n32, n32_addm1, m1_lt, lt_m1, m1_le, le_m1, m1_add1, ofNat_n32, u2_self, u2_n, mk_I, mk_T, ne_eq, not_true_eq_false, not_false_eq_true, e11]; first | done | omega)) ?_
        refine ok_some (ok_some (fail ?_))
        with_reducible refine ok_ip (by first | assumption | omega | (simp (disch := omega) only [n32_of, neg_n32_1, n32_nat, n32_lt, n32_le, n32_eq, n32_add, n32_sub, n32_mul, n32_m1, m1_n32, n32_addm1, m1_lt, lt_m1, m1_le, le_m1, m1_add1, ofNat_n32, u2_self, u2_n, mk_I, mk_T, ne_eq, not_true_eq_false, not_false_eq_true, e37]; first | done | omega)) ?_
        exact ok_some ⟨rfl, rfl⟩
    · clear hI0 h2 h3 h4 h5 h6 h7 h8 t
      repeat' (with_reducible refine ok_if (fun _ => ?_) (fun _ => ?_))
      all_goals first
        | (refine ok_some (fail ?_)
           repeat' (with_reducible refine ok_if (fun _ => ?_) (fun _ => ?_))
           all_goals first
             | exact ok_some ⟨rfl, rfl⟩
             | (exfalso; simp (disch := omega) only [n32_of, neg_n32_1, ofNat_n32, Int32.lt_iff_toInt_lt, Int32.le_iff_toInt_le, i32_eq, n32_toInt, m1_toInt, ne_eq, Decidable.not_not] at *; first | done | omega))
        | (exfalso; simp (disch := omega) only [n32_of, neg_n32_1, ofNat_n32, Int32.lt_iff_toInt_lt, Int32.le_iff_toInt_le, i32_eq, n32_toInt, m1_toInt, ne_eq, Decidable.not_not] at *; first | done | omega)
end OPS
