theorem hall_want {f f' : pln} {D : HD} {b k n : Nat} (h3 : sHall f D) (hb : b < 6) (hk : k < 6) (hn5 : n ≤ 500) (e1 : ∀ a j, ftH a j → ¬ (a = 47 + 9 * b + 1 ∧ j = k) → ¬ (a = 266 ∧ j = 6 * b + k) → f' a j = f a j) (e3 : f' (47 + 9 * b + 1) k = n32 n ∧ f' 266 (6 * b + k) = n32 n) : sHall f' (hn D, hm D, lo D, la D, fu (wn D) b (fu (wn D b) k n), cr D, tw D) := by
  obtain ⟨⟨d1, d2, d3, d4, d5⟩, ⟨x1, x2, x3, x4, x5, x6⟩, ⟨y1, y2, y3, y4, y5, y6⟩⟩ := h3
  have key : ∀ b' k', (b' = b ∧ k' = k ∧ fu (wn D) b (fu (wn D b) k n) b' k' = n) ∨ (¬ (b' = b ∧ k' = k) ∧ fu (wn D) b (fu (wn D b) k n) b' k' = wn D b' k') := by
    intro b' k'
    by_cases e : b' = b
    · subst e
      rw [fu_at]
      by_cases e2 : k' = k
      · subst e2
        exact Or.inl ⟨rfl, rfl, fu_at⟩
      · exact Or.inr ⟨fun q => e2 q.2, fu_ne e2⟩
    · exact Or.inr ⟨fun q => e q.1, by rw [fu_ne e]⟩
  refine ⟨⟨d1, d2, d3, d4, fun b' k' hb' hk' => ?_⟩, ⟨(e1 _ _ (by omega) (by omega) (by omega)).trans x1, (e1 _ _ (by omega) (by omega) (by omega)).trans x2, fun j i hj (hi : i < hn D) => (e1 _ _ (by omega) (by omega) (by omega)).trans (x3 j i hj hi), fun k hk => (e1 _ _ (by omega) (by omega) (by omega)).trans (x4 k hk), fun b (hb : b < hm D) => ⟨(e1 _ _ (by omega) (by omega) (by omega)).trans (x5 b hb).1, (e1 _ _ (by omega) (by omega) (by omega)).trans (x5 b hb).2⟩, fun b' k' hb' hk' => ?_⟩, ⟨(e1 _ _ (by omega) (by omega) (by omega)).trans y1, (e1 _ _ (by omega) (by omega) (by omega)).trans y2, fun j i hj (hi : i < hn D) => (e1 _ _ (by omega) (by omega) (by omega)).trans (y3 j i hj hi), fun k hk => (e1 _ _ (by omega) (by omega) (by omega)).trans (y4 k hk), fun b (hb : b < hm D) => ⟨(e1 _ _ (by omega) (by omega) (by omega)).trans (y5 b hb).1, (e1 _ _ (by omega) (by omega) (by omega)).trans (y5 b hb).2⟩, fun b' k' hb' hk' => ?_⟩⟩
  · show fu (wn D) b (fu (wn D b) k n) b' k' ≤ 500
    rcases key b' k' with ⟨-, -, e⟩ | ⟨-, e⟩
    · omega
    · rw [e]
      exact d5 b' k' hb' hk'
  · show _ = n32 (fu (wn D) b (fu (wn D b) k n) b' k')
    rcases key b' k' with ⟨q1, q2, e⟩ | ⟨q, e⟩
    · rw [e, q1, q2]
      exact e3.1
    · rw [e]
      exact (e1 _ _ (by omega) (by omega) (by omega)).trans (x6 b' k' hb' hk')
  · show _ = n32 (fu (wn D) b (fu (wn D b) k n) b' k')
    rcases key b' k' with ⟨q1, q2, e⟩ | ⟨q, e⟩
    · rw [e, q1, q2]
      exact e3.2
    · rw [e]
      exact (e1 _ _ (by omega) (by omega) (by omega)).trans (y6 b' k' hb' hk')
theorem lor_new {f f' : pln} {Y : LY} {t r e : Nat} (h : sLor f Y) (hq : yq Y < 6) (ht : t < 4) (hr1 : 1 ≤ r) (hr : r ≤ 60) (he : e ≤ 99999) (e1 : ∀ a k, ftY a k → ¬ (a = 0 ∧ k = 6) → ¬ (a = 223 + 2 * yq Y) → a ≠ 224 + 2 * yq Y → ¬ (a = 235 ∧ k = 48) → ¬ (268 ≤ a ∧ a ≤ 270 ∧ k = yq Y) → f' a k = f a k) (e2 : f' 0 6 = n32 (yq Y + 1) ∧ f' 235 48 = n32 (yq Y + 1)) (e3 : (f' (223 + 2 * yq Y) 0 = n32 t ∧ f' (223 + 2 * yq Y) 1 = n32 r ∧ f' (223 + 2 * yq Y) 2 = n32 e) ∧ f' 268 (yq Y) = n32 t ∧ f' 269 (yq Y) = n32 r ∧ f' 270 (yq Y) = n32 e) : sLor f' (yq Y + 1, fu (yt Y) (yq Y) t, fu (yr Y) (yq Y) r, fu (yl Y) (yq Y) e) := by
  obtain ⟨⟨o1, o2⟩, h2, h3, h4⟩ := h
  refine ⟨⟨hq, fun v hv => ?_⟩, e2.1, e2.2, fun v hv => ?_⟩
  · have hv' : v < yq Y + 1 := hv
    show fu (yt Y) (yq Y) t v < 4 ∧ 1 ≤ fu (yr Y) (yq Y) r v ∧ fu (yr Y) (yq Y) r v ≤ 60 ∧ fu (yl Y) (yq Y) e v ≤ 99999
    by_cases c : v = yq Y
    · subst c
      rw [fu_at, fu_at, fu_at]
      exact ⟨ht, hr1, hr, he⟩
    · rw [fu_ne c, fu_ne c, fu_ne c]
      exact o2 v (by omega)
  · have hv' : v < yq Y + 1 := hv
    show (_ = n32 (fu (yt Y) (yq Y) t v) ∧ _ = n32 (fu (yr Y) (yq Y) r v) ∧ _ = n32 (fu (yl Y) (yq Y) e v)) ∧ _ = n32 (fu (yt Y) (yq Y) t v) ∧ _ = n32 (fu (yr Y) (yq Y) r v) ∧ _ = n32 (fu (yl Y) (yq Y) e v)
    by_cases c : v = yq Y
    · subst c
      rw [fu_at, fu_at, fu_at]
      exact e3
    · rw [fu_ne c, fu_ne c, fu_ne c]
      obtain ⟨⟨a1, a2, a3⟩, a4, a5, a6⟩ := h4 v (by omega)
      exact ⟨⟨(e1 _ _ (by omega) (by omega) (by omega) (by omega) (by omega) (by omega)).trans a1, (e1 _ _ (by omega) (by omega) (by omega) (by omega) (by omega) (by omega)).trans a2, (e1 _ _ (by omega) (by omega) (by omega) (by omega) (by omega) (by omega)).trans a3⟩, (e1 _ _ (by omega) (by omega) (by omega) (by omega) (by omega) (by omega)).trans a4, (e1 _ _ (by omega) (by omega) (by omega) (by omega) (by omega) (by omega)).trans a5, (e1 _ _ (by omega) (by omega) (by omega) (by omega) (by omega) (by omega)).trans a6⟩
section OPS4
variable {N : Nat} {σ : aSt} {f : pln} {len : Nat} {D : HD} {Y : LY} {s : Bool} {dr : Nat → SR} {st le : Nat → Nat} {ha : Nat → Nat → Nat} {sp nl : Nat → Nat} {rt : Nat → List Ru} {lw : Nat → Nat}
theorem op_want (x1 x2 x3 : Int32) (hI : IVx σ f len D Y s dr st le ha sp nl rt lw) : Same σ (F_X11_want N x1 x2 x3) (F_X12_want N x1 x2 x3) f := by
  have hI0 := hI
  obtain ⟨t, h2, h3, h4, h5, h6, h7, h8⟩ := hI
  have m6 := h3.1.2.1
  have e3 := h3.2.1.2.1
  have e43 := h3.2.2.2.1
  have fail : ∀ {R : Option (Int32 × aSt)}, Ok R (fun z σ2 => z = 0 ∧ σ2 = mk σ f) → Ok R (fun z σ2 => (0 : Int32) = z ∧ ∃ f' W, σ2 = mk σ f' ∧ IV σ f' W) := fun h => ok_mono h (fun z σ2 q => ⟨q.1.symm, by rw [q.2]; exact IV_mk hI0⟩)
  refine same_q (fun Q hQ => ?_)
  unfold F_X11_want J_X11_want_31
  simp only [s_hasBuyer, s_isBelow, s_isWithin, oB_s, bI_0, bI_n0, cO_t nar_b0, cO_t nar_b1, mk_I, e3]
  by_cases hv : (¬ x1 < 0 ∧ x1 < n32 (hm D)) ∧ (¬ x2 < 0 ∧ x2 < 6) ∧ (¬ x3 < 0 ∧ ¬ 500 < x3)
  · obtain ⟨v1, v2, v3⟩ := hv
    obtain ⟨b, g1, rfl⟩ := rng_lt (b := hm D) (by omega) v1.1 v1.2
    obtain ⟨k, g2, rfl⟩ := rng_lt (b := 6) (by omega) v2.1 v2.2
    obtain ⟨n, -, g3, rfl⟩ := rng_le (a := 0) (b := 500) (by omega) (by omega) v3.1 v3.2
    with_reducible refine ok_ini ?_ ?_
    · exact fun q => q v1
    with_reducible refine ok_ini ?_ ?_
    · exact fun q => q v2
    with_reducible refine ok_ipi ?_ ?_
    · exact v3
    repeat (first | with_reducible refine ok_W ?_ | with_reducible refine ok_cOi (by first | assumption | omega | (simp (disch := omega) only [n32_of, neg_n32_1, n32_nat, n32_lt, n32_le, n32_eq, n32_add, n32_sub, n32_mul, n32_m1, m1_n32, n32_addm1, m1_lt, lt_m1, m1_le, le_m1, m1_add1, ofNat_n32, u2_self, u2_n, mk_I, mk_T, ne_eq, not_true_eq_false, not_false_eq_true, ]; first | done | omega)) ?_ | with_reducible refine ok_ipi (by first | assumption | omega | (simp (disch := omega) only [n32_of, neg_n32_1, n32_nat, n32_lt, n32_le, n32_eq, n32_add, n32_sub, n32_mul, n32_m1, m1_n32, n32_addm1, m1_lt, lt_m1, m1_le, le_m1, m1_add1, ofNat_n32, u2_self, u2_n, mk_I, mk_T, ne_eq, not_true_eq_false, not_false_eq_true, ]; first | done | omega)) ?_ | with_reducible refine ok_ini (by first | assumption | omega | (simp (disch := omega) only [n32_of, neg_n32_1, n32_nat, n32_lt, n32_le, n32_eq, n32_add, n32_sub, n32_mul, n32_m1, m1_n32, n32_addm1, m1_lt, lt_m1, m1_le, le_m1, m1_add1, ofNat_n32, u2_self, u2_n, mk_I, mk_T, ne_eq, not_true_eq_false, not_false_eq_true, ]; first | done | omega)) ?_)
    simp (disch := omega) only [n32_of, neg_n32_1, n32_nat, n32_lt, n32_le, n32_eq, n32_add, n32_sub, n32_mul, n32_m1, m1_n32, n32_addm1, m1_lt, lt_m1, m1_le, le_m1, m1_add1, ofNat_n32, u2_self, u2_n, mk_I, mk_T, ]
    refine ok_some (hQ _ _ ?_)
    unfold F_X12_want J_X12_want_26
    simp only [s_isBuyer, s_isKind, oB_s, bI_0, bI_n0, cO_t nar_b0, cO_t nar_b1]
    with_reducible refine ok_ini ?_ ?_
    · intro q
      apply q
      rw [mk_I, u2_n (by omega), e43]
      exact v1
    with_reducible refine ok_ini ?_ ?_
    · exact fun q => q v2
    repeat (first | with_reducible refine ok_W ?_ | with_reducible refine ok_cOi (by first | assumption | omega | (simp (disch := omega) only [n32_of, neg_n32_1, n32_nat, n32_lt, n32_le, n32_eq, n32_add, n32_sub, n32_mul, n32_m1, m1_n32, n32_addm1, m1_lt, lt_m1, m1_le, le_m1, m1_add1, ofNat_n32, u2_self, u2_n, mk_I, mk_T, ne_eq, not_true_eq_false, not_false_eq_true, ]; first | done | omega)) ?_ | with_reducible refine ok_ipi (by first | assumption | omega | (simp (disch := omega) only [n32_of, neg_n32_1, n32_nat, n32_lt, n32_le, n32_eq, n32_add, n32_sub, n32_mul, n32_m1, m1_n32, n32_addm1, m1_lt, lt_m1, m1_le, le_m1, m1_add1, ofNat_n32, u2_self, u2_n, mk_I, mk_T, ne_eq, not_true_eq_false, not_false_eq_true, ]; first | done | omega)) ?_ | with_reducible refine ok_ini (by first | assumption | omega | (simp (disch := omega) only [n32_of, neg_n32_1, n32_nat, n32_lt, n32_le, n32_eq, n32_add, n32_sub, n32_mul, n32_m1, m1_n32, n32_addm1, m1_lt, lt_m1, m1_le, le_m1, m1_add1, ofNat_n32, u2_self, u2_n, mk_I, mk_T, ne_eq, not_true_eq_false, not_false_eq_true, ]; first | done | omega)) ?_)
    simp (disch := omega) only [n32_of, neg_n32_1, n32_nat, n32_lt, n32_le, n32_eq, n32_add, n32_sub, n32_mul, n32_m1, m1_n32, n32_addm1, m1_lt, lt_m1, m1_le, le_m1, m1_add1, ofNat_n32, u2_self, u2_n, mk_I, mk_T, ]
    have fr : ∀ a j, ¬ (a = 47 + 9 * b + 1 ∧ j = k) → ¬ (a = 266 ∧ j = 6 * b + k) → u2 (u2 f (47 + 9 * b + 1) k (n32 n)) 266 (6 * b + k) (n32 n) a j = f a j := fun a j p1 p2 => by rw [u2_n (by omega), u2_n (by omega)]
    refine ok_some ⟨rfl, IV_mk (len := len) (Y := Y) (s := s) (dr := dr) (st := st) (le := le) (ha := ha) (sp := sp) (nl := nl) (rt := rt) (lw := lw) ⟨sTape_cg t (fun a k hk => fr a k (by omega) (by omega)), sPl_cg h2 (fun a k hk => fr a k (by omega) (by omega)), hall_want (n := n) h3 (by omega) g2 g3 (fun a k _ p1 p2 => fr a k p1 p2) ⟨?_, ?_⟩, sLor_cg h4 (fun a k hk => fr a k (by omega) (by omega)), sDay_cg h5 (fun a k hk => fr a k (by omega) (by omega)), sPur_cg (D := D) h3.1 h6 (fun a k hk => fr a k (by omega) (by omega)), sOut_D (D := D) (sOut_cg h3.1 h4.1 h7 (fun a k hk => fr a k (by omega) (by omega))) rfl rfl (fun b' hb' => rfl) (Nat.le_refl _), sTxt_cg h8 (fun a k hk => fr a k (by omega) (by omega))⟩⟩
    · rw [u2_n (by omega), u2_self]
    · rw [u2_self]
  · have rf : Ok (F_X12_want N x1 x2 x3 (mk σ f)) (fun z σ2 => z = 0 ∧ σ2 = mk σ f) := by
      unfold F_X12_want J_X12_want_26
      simp only [s_isBuyer, s_isKind, oB_s, bI_0, bI_n0, cO_t nar_b0, cO_t nar_b1, mk_I, e43]
      clear hI0 h2 h3 h4 h5 h6 h7 h8 t hQ
      repeat' (with_reducible refine ok_ifi (fun _ => ?_) (fun _ => ?_))
      all_goals first
        | exact ok_some ⟨rfl, rfl⟩
        | (exfalso; simp (disch := omega) only [n32_of, neg_n32_1, ofNat_n32, Int32.lt_iff_toInt_lt, Int32.le_iff_toInt_le, i32_eq, n32_toInt, m1_toInt, ne_eq, Decidable.not_not] at *; first | done | omega)
    have g := hQ _ _ (fail rf)
    clear hI0 h2 h3 h4 h5 h6 h7 h8 t
    repeat' (with_reducible refine ok_ifi (fun _ => ?_) (fun _ => ?_))
    all_goals first
      | exact ok_some g
      | (exfalso; simp (disch := omega) only [n32_of, neg_n32_1, ofNat_n32, Int32.lt_iff_toInt_lt, Int32.le_iff_toInt_le, i32_eq, n32_toInt, m1_toInt, ne_eq, Decidable.not_not] at *; first | done | omega)
theorem op_lorry (hN : 1000 ≤ N) (x1 x2 x3 : Int32) (hI : IVx σ f len D Y s dr st le ha sp nl rt lw) : Same σ (F_X11_lorry N x1 x2 x3) (F_X12_lorry N x1 x2 x3) f := by
  have hI0 := hI
  obtain ⟨t, h2, h3, h4, h5, h6, h7, h8⟩ := hI
  have q6 := h4.1.1
  have n24 := h3.1.1
  have e6 := h4.2.1
  have e48 := h4.2.2.1
  have e8 := h5.2.1
  have fail : ∀ {R : Option (Int32 × aSt)}, Ok R (fun z σ2 => z = -1 ∧ σ2 = mk σ f) → Ok R (fun z σ2 => (-1 : Int32) = z ∧ ∃ f' W, σ2 = mk σ f' ∧ IV σ f' W) := fun h => ok_mono h (fun z σ2 q => ⟨q.1.symm, by rw [q.2]; exact IV_mk hI0⟩)
  refine same_q (fun Q hQ => ?_)
  unfold F_X11_lorry J_X11_lorry_17 J_X11_lorry_39 J_X11_lorry_101
  simp only [s_isBelow, s_isWithin, oB_s, bI_0, bI_n0]
  by_cases hv : (¬ x1 < 0 ∧ x1 < 4) ∧ (¬ x2 < 1 ∧ ¬ 60 < x2) ∧ (¬ x3 < 0 ∧ ¬ 99999 < x3)
  · obtain ⟨v1, v2, v3⟩ := hv
    obtain ⟨tt, g1, rfl⟩ := rng_lt (b := 4) (by omega) v1.1 v1.2
    obtain ⟨r, g2, g2', rfl⟩ := rng_le (a := 1) (b := 60) (by omega) (by omega) v2.1 v2.2
    obtain ⟨e, -, g3, rfl⟩ := rng_le (a := 0) (b := 99999) (by omega) (by omega) v3.1 v3.2
    by_cases hq : yq Y < 6
    · with_reducible refine ok_ini (by first | assumption | omega | (simp (disch := omega) only [n32_of, neg_n32_1, n32_nat, n32_lt, n32_le, n32_eq, n32_add, n32_sub, n32_mul, n32_m1, m1_n32, n32_addm1, m1_lt, lt_m1, m1_le, le_m1, m1_add1, ofNat_n32, u2_self, u2_n, mk_I, mk_T, ne_eq, not_true_eq_false, not_false_eq_true, e6]; first | done | omega)) ?_
      with_reducible refine ok_ipi ?_ ?_
      · exact v1
      with_reducible refine ok_ini ?_ ?_
      · exact fun q => q v2
      with_reducible refine ok_ipi ?_ ?_
      · exact v3
      repeat (first | with_reducible refine ok_W ?_ | with_reducible refine ok_cOi (by first | assumption | omega | (simp (disch := omega) only [n32_of, neg_n32_1, n32_nat, n32_lt, n32_le, n32_eq, n32_add, n32_sub, n32_mul, n32_m1, m1_n32, n32_addm1, m1_lt, lt_m1, m1_le, le_m1, m1_add1, ofNat_n32, u2_self, u2_n, mk_I, mk_T, ne_eq, not_true_eq_false, not_false_eq_true, e6]; first | done | omega)) ?_ | with_reducible refine ok_ipi (by first | assumption | omega | (simp (disch := omega) only [n32_of, neg_n32_1, n32_nat, n32_lt, n32_le, n32_eq, n32_add, n32_sub, n32_mul, n32_m1, m1_n32, n32_addm1, m1_lt, lt_m1, m1_le, le_m1, m1_add1, ofNat_n32, u2_self, u2_n, mk_I, mk_T, ne_eq, not_true_eq_false, not_false_eq_true, e6]; first | done | omega)) ?_ | with_reducible refine ok_ini (by first | assumption | omega | (simp (disch := omega) only [n32_of, neg_n32_1, n32_nat, n32_lt, n32_le, n32_eq, n32_add, n32_sub, n32_mul, n32_m1, m1_n32, n32_addm1, m1_lt, lt_m1, m1_le, le_m1, m1_add1, ofNat_n32, u2_self, u2_n, mk_I, mk_T, ne_eq, not_true_eq_false, not_false_eq_true, e6]; first | done | omega)) ?_)
      unfold F_X4_order
      refine ok_oB ?_
      repeat (first | with_reducible refine ok_W ?_ | with_reducible refine ok_cOi (by first | assumption | omega | (simp (disch := omega) only [n32_of, neg_n32_1, n32_nat, n32_lt, n32_le, n32_eq, n32_add, n32_sub, n32_mul, n32_m1, m1_n32, n32_addm1, m1_lt, lt_m1, m1_le, le_m1, m1_add1, ofNat_n32, u2_self, u2_n, mk_I, mk_T, ne_eq, not_true_eq_false, not_false_eq_true, e6]; first | done | omega)) ?_ | with_reducible refine ok_ipi (by first | assumption | omega | (simp (disch := omega) only [n32_of, neg_n32_1, n32_nat, n32_lt, n32_le, n32_eq, n32_add, n32_sub, n32_mul, n32_m1, m1_n32, n32_addm1, m1_lt, lt_m1, m1_le, le_m1, m1_add1, ofNat_n32, u2_self, u2_n, mk_I, mk_T, ne_eq, not_true_eq_false, not_false_eq_true, e6]; first | done | omega)) ?_ | with_reducible refine ok_ini (by first | assumption | omega | (simp (disch := omega) only [n32_of, neg_n32_1, n32_nat, n32_lt, n32_le, n32_eq, n32_add, n32_sub, n32_mul, n32_m1, m1_n32, n32_addm1, m1_lt, lt_m1, m1_le, le_m1, m1_add1, ofNat_n32, u2_self, u2_n, mk_I, mk_T, ne_eq, not_true_eq_false, not_false_eq_true, e6]; first | done | omega)) ?_)
      simp (disch := omega) only [n32_of, neg_n32_1, n32_nat, n32_lt, n32_le, n32_eq, n32_add, n32_sub, n32_mul, n32_m1, m1_n32, n32_addm1, m1_lt, lt_m1, m1_le, le_m1, m1_add1, ofNat_n32, u2_self, u2_n, mk_I, mk_T, e6]
      have rside : ∀ f2 : pln, (∀ a k, ¬ (193 ≤ a ∧ a ≤ 221) → ¬ (a = 223 + 2 * yq Y) → a ≠ 224 + 2 * yq Y → ¬ (105 ≤ a ∧ a < 129 ∧ k = 7) → ¬ (a = 0 ∧ k = 6) → f2 a k = f a k) → f2 0 6 = n32 (yq Y + 1) → (f2 (223 + 2 * yq Y) 0 = n32 tt ∧ f2 (223 + 2 * yq Y) 1 = n32 r ∧ f2 (223 + 2 * yq Y) 2 = n32 e) → (s = true → ldX f2 D (yq Y) (slv D (yq Y + 1, fu (yt Y) (yq Y) tt, fu (yr Y) (yq Y) r, fu (yl Y) (yq Y) e) dr (yq Y)) ∧ ∀ l, l < hn D → f2 (105 + l) 7 = oI (on D (yq Y + 1, fu (yt Y) (yq Y) tt, fu (yr Y) (yq Y) r, fu (yl Y) (yq Y) e) dr (yq Y + 1) l)) → Ok (F_X12_lorry N (n32 tt) (n32 r) (n32 e) (mk σ f2)) (fun z σ2 => n32 (yq Y) = z ∧ ∃ f' W, σ2 = mk σ f' ∧ IV σ f' W) := by
        intro f2 q0 r6 rc hl
        have r48 : f2 235 48 = n32 (yq Y) := (q0 _ _ (by omega) (by omega) (by omega) (by omega) (by omega)).trans e48
        unfold F_X12_lorry J_X12_lorry_40
        repeat (first | with_reducible refine ok_W ?_ | with_reducible refine ok_cOi (by first | assumption | omega | (simp (disch := omega) only [n32_of, neg_n32_1, n32_nat, n32_lt, n32_le, n32_eq, n32_add, n32_sub, n32_mul, n32_m1, m1_n32, n32_addm1, m1_lt, lt_m1, m1_le, le_m1, m1_add1, ofNat_n32, u2_self, u2_n, mk_I, mk_T, ne_eq, not_true_eq_false, not_false_eq_true, r48]; first | done | omega)) ?_ | with_reducible refine ok_ipi (by first | assumption | omega | (simp (disch := omega) only [n32_of, neg_n32_1, n32_nat, n32_lt, n32_le, n32_eq, n32_add, n32_sub, n32_mul, n32_m1, m1_n32, n32_addm1, m1_lt, lt_m1, m1_le, le_m1, m1_add1, ofNat_n32, u2_self, u2_n, mk_I, mk_T, ne_eq, not_true_eq_false, not_false_eq_true, r48]; first | done | omega)) ?_ | with_reducible refine ok_ini (by first | assumption | omega | (simp (disch := omega) only [n32_of, neg_n32_1, n32_nat, n32_lt, n32_le, n32_eq, n32_add, n32_sub, n32_mul, n32_m1, m1_n32, n32_addm1, m1_lt, lt_m1, m1_le, le_m1, m1_add1, ofNat_n32, u2_self, u2_n, mk_I, mk_T, ne_eq, not_true_eq_false, not_false_eq_true, r48]; first | done | omega)) ?_)
        simp (disch := omega) only [n32_of, neg_n32_1, n32_nat, n32_lt, n32_le, n32_eq, n32_add, n32_sub, n32_mul, n32_m1, m1_n32, n32_addm1, m1_lt, lt_m1, m1_le, le_m1, m1_add1, ofNat_n32, u2_self, u2_n, mk_I, mk_T, r48, Nat.add_sub_cancel]
        have fr : ∀ a k, ¬ (193 ≤ a ∧ a ≤ 221) → ¬ (a = 223 + 2 * yq Y) → a ≠ 224 + 2 * yq Y → ¬ (105 ≤ a ∧ a < 129 ∧ k = 7) → ¬ (a = 0 ∧ k = 6) → ¬ (268 ≤ a ∧ a ≤ 270 ∧ k = yq Y) → ¬ (a = 235 ∧ k = 48) → u2 (u2 (u2 (u2 f2 268 (yq Y) (n32 tt)) 269 (yq Y) (n32 r)) 270 (yq Y) (n32 e)) 235 48 (n32 (yq Y + 1)) a k = f a k := fun a k p1 p2 p3 p4 p5 p6 p7 => by
          rw [u2_n (by omega), u2_n (by omega), u2_n (by omega), u2_n (by omega), q0 a k p1 p2 p3 p4 p5]
        have g0 : ∀ a k, a < 235 → u2 (u2 (u2 (u2 f2 268 (yq Y) (n32 tt)) 269 (yq Y) (n32 r)) 270 (yq Y) (n32 e)) 235 48 (n32 (yq Y + 1)) a k = f2 a k := fun a k p => by
          rw [u2_n (by omega), u2_n (by omega), u2_n (by omega), u2_n (by omega)]
        refine ok_some ⟨rfl, IV_mk (len := len) (D := D) (s := s) (dr := dr) (st := st) (le := le) (ha := ha) (sp := sp) (nl := nl) (rt := rt) (lw := lw) ⟨sTape_cg t (fun a k hk => fr a k (by omega) (by omega) (by omega) (by omega) (by omega) (by omega) (by omega)), sPl_cg h2 (fun a k hk => fr a k (by omega) (by omega) (by omega) (by omega) (by omega) (by omega) (by omega)), sHall_cg h3 (fun a k hk => fr a k (by omega) (by omega) (by omega) (by omega) (by omega) (by omega) (by omega)), lor_new (t := tt) (r := r) (e := e) h4 hq g1 g2 g2' g3 (fun a k hk p1 p2 p3 p4 p5 => fr a k (by omega) (by omega) (by omega) (by omega) (by omega) (by omega) (by omega)) ⟨(g0 _ _ (by omega)).trans r6, u2_self⟩ ⟨⟨(g0 _ _ (by omega)).trans rc.1, (g0 _ _ (by omega)).trans rc.2.1, (g0 _ _ (by omega)).trans rc.2.2⟩, by rw [u2_n (by omega), u2_n (by omega), u2_n (by omega), u2_self], by rw [u2_n (by omega), u2_n (by omega), u2_self], by rw [u2_n (by omega), u2_self]⟩, sDay_cg h5 (fun a k hk => fr a k (by omega) (by omega) (by omega) (by omega) (by omega) (by omega) (by omega)), sPur_cg h3.1 h6 (fun a k hk => fr a k (by omega) (by omega) (by omega) (by omega) (by omega) (by omega) (by omega)), ?_, sTxt_cg h8 (fun a k hk => fr a k (by omega) (by omega) (by omega) (by omega) (by omega) (by omega) (by omega))⟩⟩
        intro hs
        obtain ⟨a1, a2, a3⟩ := h7 hs
        obtain ⟨l1, l2⟩ := hl hs
        have hc := on_cg (D := D) (D' := D) (Y := Y) (Y' := (yq Y + 1, fu (yt Y) (yq Y) tt, fu (yr Y) (yq Y) r, fu (yl Y) (yq Y) e)) (dr := dr) (q := yq Y) rfl rfl (fun v x hv hx => by
          unfold cand
          show (toT D (fu (yt Y) (yq Y) tt v) _ && decide (_ ≤ fu (yl Y) (yq Y) e v)) = _
          rw [fu_ne (by omega), fu_ne (by omega)]) (fun v hv => fu_ne (by omega))
        refine ⟨a1, fun l hl => ?_, fun v hv => ?_⟩
        · obtain ⟨⟨w0, w1, w2, w3, w4, w5, w6, w7⟩, c0, c1, c2, c3, c4, c5, c6⟩ := a2 l hl
          refine ⟨⟨?_, ?_, ?_, ?_, ?_, ?_, ?_, (g0 _ _ (by omega)).trans (l2 l hl)⟩, ?_, ?_, ?_, ?_, ?_, ?_, ?_⟩
          all_goals
            rw [fr _ _ (by omega) (by omega) (by omega) (by omega) (by omega) (by omega) (by omega)]
            assumption
        · have hv' : v < yq Y + 1 := hv
          by_cases c : v = yq Y
          · subst c
            obtain ⟨b1, b2, b3⟩ := l1
            exact ⟨(g0 _ _ (by omega)).trans b1, (g0 _ _ (by omega)).trans b2, rowL_cg b3 (fun k => g0 _ _ (by omega))⟩
          · rw [(hc v (by omega)).2 (by omega)]
            obtain ⟨b1, b2, b3⟩ := a3 v (by omega)
            exact ⟨(fr _ _ (by omega) (by omega) (by omega) (by omega) (by omega) (by omega) (by omega)).trans b1, (fr _ _ (by omega) (by omega) (by omega) (by omega) (by omega) (by omega) (by omega)).trans b2, rowL_cg b3 (fun k => fr _ _ (by omega) (by omega) (by omega) (by omega) (by omega) (by omega) (by omega))⟩
      have f1a : ∀ g : pln, g = u2 (u2 (u2 (u2 f 0 6 (n32 (yq Y + 1))) (223 + 2 * yq Y) 0 (n32 tt)) (223 + 2 * yq Y) 1 (n32 r)) (223 + 2 * yq Y) 2 (n32 e) → (∀ a k, ¬ (a = 223 + 2 * yq Y ∧ k < 3) → ¬ (a = 0 ∧ k = 6) → g a k = f a k) ∧ g 0 6 = n32 (yq Y + 1) ∧ g (223 + 2 * yq Y) 0 = n32 tt ∧ g (223 + 2 * yq Y) 1 = n32 r ∧ g (223 + 2 * yq Y) 2 = n32 e := by
        intro g hg
        subst hg
        refine ⟨fun a k p1 p2 => ?_, ?_, ?_, ?_, ?_⟩
        · rw [u2_n (by omega), u2_n (by omega), u2_n (by omega), u2_n (by omega)]
        · simp (disch := omega) only [n32_of, neg_n32_1, n32_nat, n32_lt, n32_le, n32_eq, n32_add, n32_sub, n32_mul, n32_m1, m1_n32, n32_addm1, m1_lt, lt_m1, m1_le, le_m1, m1_add1, ofNat_n32, u2_self, u2_n, mk_I, mk_T, ]
        · simp (disch := omega) only [n32_of, neg_n32_1, n32_nat, n32_lt, n32_le, n32_eq, n32_add, n32_sub, n32_mul, n32_m1, m1_n32, n32_addm1, m1_lt, lt_m1, m1_le, le_m1, m1_add1, ofNat_n32, u2_self, u2_n, mk_I, mk_T, ]
        · simp (disch := omega) only [n32_of, neg_n32_1, n32_nat, n32_lt, n32_le, n32_eq, n32_add, n32_sub, n32_mul, n32_m1, m1_n32, n32_addm1, m1_lt, lt_m1, m1_le, le_m1, m1_add1, ofNat_n32, u2_self, u2_n, mk_I, mk_T, ]
        · simp (disch := omega) only [n32_of, neg_n32_1, n32_nat, n32_lt, n32_le, n32_eq, n32_add, n32_sub, n32_mul, n32_m1, m1_n32, n32_addm1, m1_lt, lt_m1, m1_le, le_m1, m1_add1, ofNat_n32, u2_self, u2_n, mk_I, mk_T, ]
      generalize u2 (u2 (u2 (u2 f 0 6 (n32 (yq Y + 1))) (223 + 2 * yq Y) 0 (n32 tt)) (223 + 2 * yq Y) 1 (n32 r)) (223 + 2 * yq Y) 2 (n32 e) = f1 at f1a ⊢
      obtain ⟨k1, k2, k3, k4, k5⟩ := f1a f1 rfl
      refine ok_some ?_
      cases s with
      | false =>
        have z8 : f1 0 8 = n32 0 := (k1 _ _ (by omega) (by omega)).trans e8
        with_reducible refine ok_ipi (by first | assumption | omega | (simp (disch := omega) only [n32_of, neg_n32_1, n32_nat, n32_lt, n32_le, n32_eq, n32_add, n32_sub, n32_mul, n32_m1, m1_n32, n32_addm1, m1_lt, lt_m1, m1_le, le_m1, m1_add1, ofNat_n32, u2_self, u2_n, mk_I, mk_T, ne_eq, not_true_eq_false, not_false_eq_true, z8]; first | done | omega)) ?_
        refine ok_some (hQ _ _ ?_)
        exact rside f1 (fun a k p1 p2 p3 p4 p5 => k1 a k (by omega) p5) k2 ⟨k3, k4, k5⟩ (fun q => Bool.noConfusion q)
      | true =>
        have z8 : f1 0 8 = n32 1 := (k1 _ _ (by omega) (by omega)).trans e8
        obtain ⟨a1, a2, a3⟩ := h7 rfl
        have hc := on_cg (D := D) (D' := D) (Y := Y) (Y' := (yq Y + 1, fu (yt Y) (yq Y) tt, fu (yr Y) (yq Y) r, fu (yl Y) (yq Y) e)) (dr := dr) (q := yq Y) rfl rfl (fun v x hv hx => by
          unfold cand
          show (toT D (fu (yt Y) (yq Y) tt v) _ && decide (_ ≤ fu (yl Y) (yq Y) e v)) = _
          rw [fu_ne (by omega), fu_ne (by omega)]) (fun v hv => fu_ne (by omega))
        have hY' : yOK (yq Y + 1, fu (yt Y) (yq Y) tt, fu (yr Y) (yq Y) r, fu (yl Y) (yq Y) e) := by
          refine ⟨hq, fun v hv => ?_⟩
          have hv' : v < yq Y + 1 := hv
          show fu (yt Y) (yq Y) tt v < 4 ∧ 1 ≤ fu (yr Y) (yq Y) r v ∧ fu (yr Y) (yq Y) r v ≤ 60 ∧ fu (yl Y) (yq Y) e v ≤ 99999
          by_cases c : v = yq Y
          · subst c
            rw [fu_at, fu_at, fu_at]
            exact ⟨g1, g2, g2', g3⟩
          · rw [fu_ne c, fu_ne c, fu_ne c]
            exact h4.1.2 v (by omega)
        have hF : FX f1 D (yq Y + 1, fu (yt Y) (yq Y) tt, fu (yr Y) (yq Y) r, fu (yl Y) (yq Y) e) dr (yq Y) := by
          refine ⟨HX_V h3.2.1 h3.1 (fun a k hk => k1 a k (by omega) (by omega)), ?_, fun l hl => ?_⟩
          · show f1 _ 0 = n32 (fu (yt Y) (yq Y) tt (yq Y)) ∧ f1 _ 1 = n32 (fu (yr Y) (yq Y) r (yq Y)) ∧ f1 _ 2 = n32 (fu (yl Y) (yq Y) e (yq Y))
            rw [fu_at, fu_at, fu_at]
            exact ⟨k3, k4, k5⟩
          · obtain ⟨⟨w0, w1, w2, w3, w4, w5, w6, w7⟩, -⟩ := a2 l hl
            rw [(hc (yq Y) (Nat.le_refl _)).1]
            exact ⟨(k1 _ _ (by omega) (by omega)).trans w0, (k1 _ _ (by omega) (by omega)).trans w2, (k1 _ _ (by omega) (by omega)).trans w7⟩
        with_reducible refine ok_ini (by first | assumption | omega | (simp (disch := omega) only [n32_of, neg_n32_1, n32_nat, n32_lt, n32_le, n32_eq, n32_add, n32_sub, n32_mul, n32_m1, m1_n32, n32_addm1, m1_lt, lt_m1, m1_le, le_m1, m1_add1, ofNat_n32, u2_self, u2_n, mk_I, mk_T, ne_eq, not_true_eq_false, not_false_eq_true, z8]; first | done | omega)) ?_
        with_reducible refine ok_cOi (by first | assumption | omega | (simp (disch := omega) only [n32_of, neg_n32_1, n32_nat, n32_lt, n32_le, n32_eq, n32_add, n32_sub, n32_mul, n32_m1, m1_n32, n32_addm1, m1_lt, lt_m1, m1_le, le_m1, m1_add1, ofNat_n32, u2_self, u2_n, mk_I, mk_T, ne_eq, not_true_eq_false, not_false_eq_true, ]; first | done | omega)) ?_
        refine ok_oB (ok_mono (x_loadF hN h3.1 a1 hY' (Nat.lt_succ_self _) hF) ?_)
        rintro _ _ ⟨f2, rfl, q0, ql, qo⟩
        refine ok_some (hQ _ _ ?_)
        exact rside f2 (fun a k p1 p2 p3 p4 p5 => (q0 a k p1 (by omega) p3 p4).trans (k1 a k (by omega) p5)) ((q0 _ _ (by omega) (by omega) (by omega) (by omega)).trans k2) ⟨(q0 _ _ (by omega) (by omega) (by omega) (by omega)).trans k3, (q0 _ _ (by omega) (by omega) (by omega) (by omega)).trans k4, (q0 _ _ (by omega) (by omega) (by omega) (by omega)).trans k5⟩ (fun _ => ⟨ql, qo⟩)
    · with_reducible refine ok_ipi (by first | assumption | omega | (simp (disch := omega) only [n32_of, neg_n32_1, n32_nat, n32_lt, n32_le, n32_eq, n32_add, n32_sub, n32_mul, n32_m1, m1_n32, n32_addm1, m1_lt, lt_m1, m1_le, le_m1, m1_add1, ofNat_n32, u2_self, u2_n, mk_I, mk_T, ne_eq, not_true_eq_false, not_false_eq_true, e6]; first | done | omega)) ?_
      refine ok_some (hQ _ _ (fail ?_))
      unfold F_X12_lorry J_X12_lorry_40
      with_reducible refine ok_ipi (by first | assumption | omega | (simp (disch := omega) only [n32_of, neg_n32_1, n32_nat, n32_lt, n32_le, n32_eq, n32_add, n32_sub, n32_mul, n32_m1, m1_n32, n32_addm1, m1_lt, lt_m1, m1_le, le_m1, m1_add1, ofNat_n32, u2_self, u2_n, mk_I, mk_T, ne_eq, not_true_eq_false, not_false_eq_true, e48]; first | done | omega)) ?_
      exact ok_some ⟨rfl, rfl⟩
  · have rf : Ok (F_X12_lorry N x1 x2 x3 (mk σ f)) (fun z σ2 => z = -1 ∧ σ2 = mk σ f) := by
      clear hI0 h2 h3 h4 h5 h6 h7 h8 t hQ
      unfold F_X12_lorry J_X12_lorry_40
      repeat' (with_reducible refine ok_ifi (fun _ => ?_) (fun _ => ?_))
      all_goals first
        | exact ok_some ⟨rfl, rfl⟩
        | (exfalso; simp (disch := omega) only [n32_of, neg_n32_1, ofNat_n32, Int32.lt_iff_toInt_lt, Int32.le_iff_toInt_le, i32_eq, n32_toInt, m1_toInt, ne_eq, Decidable.not_not] at *; first | done | omega)
    have g := hQ _ _ (fail rf)
    clear hI0 h2 h3 h4 h5 h6 h7 h8 t
    repeat' (with_reducible refine ok_ifi (fun _ => ?_) (fun _ => ?_))
    all_goals first
      | exact ok_some g
      | (exfalso; simp (disch := omega) only [n32_of, neg_n32_1, ofNat_n32, Int32.lt_iff_toInt_lt, Int32.le_iff_toInt_le, i32_eq, n32_toInt, m1_toInt, ne_eq, Decidable.not_not] at *; first | done | omega)
end OPS4
