theorem vT {a k : Nat} (h : ftT a k) : vis a k := Or.inl h
theorem vL {a k : Nat} (h : ftL a k) : vis a k := Or.inr (Or.inl h)
theorem vH {a k : Nat} (h : ftH a k) : vis a k := Or.inr (Or.inr (Or.inl h))
theorem vY {a k : Nat} (h : ftY a k) : vis a k := Or.inr (Or.inr (Or.inr (Or.inl h)))
theorem vD {a k : Nat} (h : ftD a k) : vis a k := Or.inr (Or.inr (Or.inr (Or.inr (Or.inl h))))
theorem vP {a k : Nat} (h : ftP a k) : vis a k := Or.inr (Or.inr (Or.inr (Or.inr (Or.inr (Or.inl h)))))
theorem vO {a k : Nat} (h : ftO a k) : vis a k := Or.inr (Or.inr (Or.inr (Or.inr (Or.inr (Or.inr (Or.inl h))))))
theorem vX {a k : Nat} (h : ftX a k) : vis a k := Or.inr (Or.inr (Or.inr (Or.inr (Or.inr (Or.inr (Or.inr h))))))
theorem nvX {a k : Nat} (h : vis a k) : ¬ scX a := by
  rcases h with h | h | h | h | h | h | h | h <;> omega
theorem nvS {a k : Nat} (h : vis a k) : ¬ (274 ≤ a ∧ a ≤ 286) := by
  rcases h with h | h | h | h | h | h | h | h <;> omega
theorem nvLd {a k : Nat} (h : vis a k) : ¬ scLd a := by
  rcases h with h | h | h | h | h | h | h | h <;> omega
theorem nv147 {a k : Nat} (h : vis a k) : ¬ (147 ≤ a ∧ a < 193) := by
  rcases h with h | h | h | h | h | h | h | h <;> omega
theorem txW_0 (σ : aSt) : txW σ 0 = aTxt σ 11 5 := if_pos rfl
theorem txW_s (σ : aSt) (b : Nat) : txW σ (b + 1) = aTxt σ (47 + 9 * b) 3 := by
  unfold txW
  rw [if_neg (Nat.succ_ne_zero b), Nat.add_sub_cancel]
theorem below_iff {x : Int32} {c m : Nat} (hm : m < 2147483648) : (¬ x - n32 c < n32 0 ∧ x - n32 c < n32 m) ↔ ∃ k, k < m ∧ x = n32 (c + k) := by
  constructor
  · rintro ⟨h1, h2⟩
    obtain ⟨k, hk, e⟩ := rng_lt hm h1 h2
    refine ⟨k, hk, ?_⟩
    rw [← Int32.sub_add_cancel x (n32 c), e, n32_add, Nat.add_comm]
  · rintro ⟨k, hk, rfl⟩
    rw [n32_sub (by omega), show c + k - c = k by omega, n32_lt (by omega) (by omega), n32_lt (by omega) hm]
    omega
theorem r_stands {N : Nat} {σ : aSt} {f0 : pln} (hN : 1000 ≤ N) : Ok (F_X12_stands N (mk σ f0)) (fun _ σ' => ∃ f, σ' = mk σ f ∧ eqS (fun a => a = 276 ∨ a = 277) f0 f ∧ (∀ k, k < 36 → f 276 k = f0 271 k) ∧ ∀ b, b < 6 → f 277 b = f0 272 b) := by
  have l2 : ∀ (n b : Nat) (f : pln), 6 < n + b → b ≤ 6 → eqS (fun a => a = 276 ∨ a = 277) f0 f → (∀ k, k < 36 → f 276 k = f0 271 k) → (∀ b', b' < b → f 277 b' = f0 272 b') → Ok (H_X12_stands_28 N n (n32 b) (mk σ f)) (fun _ σ' => ∃ f, σ' = mk σ f ∧ eqS (fun a => a = 276 ∨ a = 277) f0 f ∧ (∀ k, k < 36 → f 276 k = f0 271 k) ∧ ∀ b, b < 6 → f 277 b = f0 272 b) := by
    intro n
    induction n with
    | zero => intro b f h1 h2; omega
    | succ n ih =>
      intro b f h1 h2 he h3 h4
      rw [H_X12_stands_28]
      by_cases hb : 6 ≤ b
      · with_reducible refine ok_ipi (by first | assumption | omega | (simp (disch := omega) only [n32_of, neg_n32_1, n32_nat, n32_lt, n32_le, n32_eq, n32_add, n32_sub, n32_mul, n32_m1, m1_n32, n32_addm1, m1_lt, lt_m1, m1_le, le_m1, m1_add1, ofNat_n32, u2_self, u2_n, mk_I, mk_T, ne_eq, not_true_eq_false, not_false_eq_true, ]; first | done | omega)) ?_
        exact ok_some ⟨f, rfl, he, h3, fun b' hb' => h4 b' (by omega)⟩
      · repeat (first | with_reducible refine ok_W ?_ | with_reducible refine ok_cOi (by first | assumption | omega | (simp (disch := omega) only [n32_of, neg_n32_1, n32_nat, n32_lt, n32_le, n32_eq, n32_add, n32_sub, n32_mul, n32_m1, m1_n32, n32_addm1, m1_lt, lt_m1, m1_le, le_m1, m1_add1, ofNat_n32, u2_self, u2_n, mk_I, mk_T, ne_eq, not_true_eq_false, not_false_eq_true, ]; first | done | omega)) ?_ | with_reducible refine ok_ipi (by first | assumption | omega | (simp (disch := omega) only [n32_of, neg_n32_1, n32_nat, n32_lt, n32_le, n32_eq, n32_add, n32_sub, n32_mul, n32_m1, m1_n32, n32_addm1, m1_lt, lt_m1, m1_le, le_m1, m1_add1, ofNat_n32, u2_self, u2_n, mk_I, mk_T, ne_eq, not_true_eq_false, not_false_eq_true, ]; first | done | omega)) ?_ | with_reducible refine ok_ini (by first | assumption | omega | (simp (disch := omega) only [n32_of, neg_n32_1, n32_nat, n32_lt, n32_le, n32_eq, n32_add, n32_sub, n32_mul, n32_m1, m1_n32, n32_addm1, m1_lt, lt_m1, m1_le, le_m1, m1_add1, ofNat_n32, u2_self, u2_n, mk_I, mk_T, ne_eq, not_true_eq_false, not_false_eq_true, ]; first | done | omega)) ?_)
        simp (disch := omega) only [n32_of, neg_n32_1, n32_nat, n32_lt, n32_le, n32_eq, n32_add, n32_sub, n32_mul, n32_m1, m1_n32, n32_addm1, m1_lt, lt_m1, m1_le, le_m1, m1_add1, ofNat_n32, u2_self, u2_n, mk_I, mk_T, ]
        refine ih (b + 1) _ (by omega) (by omega) (eqS_u2 he (by omega)) (fun k hk => by rw [u2_n (by omega)]; exact h3 k hk) (fun b' hb' => ?_)
        by_cases e : b' = b
        · subst e
          rw [u2_self]
          exact he _ _ (by omega)
        · rw [u2_n (by omega)]
          exact h4 b' (by omega)
  have l1 : ∀ (n k : Nat) (f : pln), 36 < n + k → k ≤ 36 → eqS (fun a => a = 276 ∨ a = 277) f0 f → (∀ k', k' < k → f 276 k' = f0 271 k') → Ok (H_X12_stands_2 N n (n32 k) (mk σ f)) (fun _ σ' => ∃ f, σ' = mk σ f ∧ eqS (fun a => a = 276 ∨ a = 277) f0 f ∧ (∀ k, k < 36 → f 276 k = f0 271 k) ∧ ∀ b, b < 6 → f 277 b = f0 272 b) := by
    intro n
    induction n with
    | zero => intro b f h1 h2; omega
    | succ n ih =>
      intro k f h1 h2 he h3
      rw [H_X12_stands_2]
      by_cases hk : 36 ≤ k
      · with_reducible refine ok_ipi (by first | assumption | omega | (simp (disch := omega) only [n32_of, neg_n32_1, n32_nat, n32_lt, n32_le, n32_eq, n32_add, n32_sub, n32_mul, n32_m1, m1_n32, n32_addm1, m1_lt, lt_m1, m1_le, le_m1, m1_add1, ofNat_n32, u2_self, u2_n, mk_I, mk_T, ne_eq, not_true_eq_false, not_false_eq_true, ]; first | done | omega)) ?_
        exact l2 N 0 f (by omega) (by omega) he (fun k' hk' => h3 k' (by omega)) (fun b' hb' => absurd hb' (Nat.not_lt_zero _))
      · repeat (first | with_reducible refine ok_W ?_ | with_reducible refine ok_cOi (by first | assumption | omega | (simp (disch := omega) only [n32_of, neg_n32_1, n32_nat, n32_lt, n32_le, n32_eq, n32_add, n32_sub, n32_mul, n32_m1, m1_n32, n32_addm1, m1_lt, lt_m1, m1_le, le_m1, m1_add1, ofNat_n32, u2_self, u2_n, mk_I, mk_T, ne_eq, not_true_eq_false, not_false_eq_true, ]; first | done | omega)) ?_ | with_reducible refine ok_ipi (by first | assumption | omega | (simp (disch := omega) only [n32_of, neg_n32_1, n32_nat, n32_lt, n32_le, n32_eq, n32_add, n32_sub, n32_mul, n32_m1, m1_n32, n32_addm1, m1_lt, lt_m1, m1_le, le_m1, m1_add1, ofNat_n32, u2_self, u2_n, mk_I, mk_T, ne_eq, not_true_eq_false, not_false_eq_true, ]; first | done | omega)) ?_ | with_reducible refine ok_ini (by first | assumption | omega | (simp (disch := omega) only [n32_of, neg_n32_1, n32_nat, n32_lt, n32_le, n32_eq, n32_add, n32_sub, n32_mul, n32_m1, m1_n32, n32_addm1, m1_lt, lt_m1, m1_le, le_m1, m1_add1, ofNat_n32, u2_self, u2_n, mk_I, mk_T, ne_eq, not_true_eq_false, not_false_eq_true, ]; first | done | omega)) ?_)
        simp (disch := omega) only [n32_of, neg_n32_1, n32_nat, n32_lt, n32_le, n32_eq, n32_add, n32_sub, n32_mul, n32_m1, m1_n32, n32_addm1, m1_lt, lt_m1, m1_le, le_m1, m1_add1, ofNat_n32, u2_self, u2_n, mk_I, mk_T, ]
        refine ih (k + 1) _ (by omega) (by omega) (eqS_u2 he (by omega)) (fun k' hk' => ?_)
        by_cases e : k' = k
        · subst e
          rw [u2_self]
          exact he _ _ (by omega)
        · rw [u2_n (by omega)]
          exact h3 k' (by omega)
  unfold F_X12_stands
  exact l1 N 0 f0 (by omega) (by omega) eqS_rfl (fun b' hb' => absurd hb' (Nat.not_lt_zero _))
section OPS5
variable {N : Nat} {σ : aSt} {f : pln} {len : Nat} {D : HD} {Y : LY} {s : Bool} {dr : Nat → SR} {st le : Nat → Nat} {ha : Nat → Nat → Nat} {sp nl : Nat → Nat} {rt : Nat → List Ru} {lw : Nat → Nat}
theorem fr_of (h3 : sHall f D) (h4 : sLor f Y) (h7 : sOut f D Y true dr st le) : FR f D Y dr := ⟨h3.2.2, ⟨h4.2.2.1, fun v hv => (h4.2.2.2 v hv).2⟩, fun l hl => ⟨((h7 rfl).2.1 l hl).2.1, ((h7 rfl).2.1 l hl).2.2.2.1⟩⟩
set_option maxHeartbeats 400000 in
theorem op_told (hN : 1000 ≤ N) (x1 x2 : Int32) (hI : IVx σ f len D Y s dr st le ha sp nl rt lw) : Same σ (F_X11_told N x1 x2) (F_X12_told N x1 x2) f := by
  have hI0 := hI
  obtain ⟨t, h2, h3, h4, h5, h6, h7, h8⟩ := hI
  have n24 := h3.1.1
  have e11 := h3.2.1.1
  have e37 := h3.2.2.1
  have e8 := h5.2.1
  have e53 := h5.2.2
  have fail : ∀ {R : Option (Int32 × aSt)}, Ok R (fun z σ2 => z = -1 ∧ σ2 = mk σ f) → Ok R (fun z σ2 => (-1 : Int32) = z ∧ ∃ f' W, σ2 = mk σ f' ∧ IV σ f' W) := fun h => ok_mono h (fun z σ2 q => ⟨q.1.symm, by rw [q.2]; exact IV_mk hI0⟩)
  refine same_q (fun Q hQ => ?_)
  unfold F_X11_told J_X11_told_18 F_X6_tell
  simp only [s_hasLot, oB_s, bI_0, bI_n0]
  cases s with
  | false =>
    with_reducible refine ok_ipi ?_ ?_
    · exact e8
    refine ok_some (hQ _ _ (fail ?_))
    unfold F_X12_told J_X12_told_15
    simp only [s_isLot, oB_s, bI_0, bI_n0]
    refine ok_ifi (fun _ => ok_some ⟨rfl, rfl⟩) (fun _ => ?_)
    with_reducible refine ok_ini ?_ ?_
    · exact fun q => q e53
    exact ok_some ⟨rfl, rfl⟩
  | true =>
    with_reducible refine ok_ini ?_ ?_
    · rw [mk_I, e8]
      decide
    by_cases hv : ¬ x1 < 0 ∧ x1 < n32 (hn D)
    · with_reducible refine ok_ipi ?_ ?_
      · rw [mk_I, e11]
        exact hv
      obtain ⟨l, hl, rfl⟩ := rng_lt (by omega) hv.1 hv.2
      obtain ⟨⟨w0, w1, w2, w3, w4, w5, w6, w7⟩, c0, c1, c2, c3, c4, c5, c6⟩ := (h7 rfl).2.1 l hl
      have rs : ∀ (y : Int32), Ok (if x2 = n32 0 then some (oI (dr l).1, mk σ f) else if x2 = n32 1 then some (n32 (dr l).2.1, mk σ f) else if x2 = n32 2 then some (n32 (dr l).2.2.1, mk σ f) else if x2 = n32 3 then some (n32 (dr l).2.2.2, mk σ f) else if x2 = n32 4 then some (n32 (st l), mk σ f) else if x2 = n32 5 then some (n32 (le l), mk σ f) else if x2 = n32 6 then some (n32 (brP D l (dr l)), mk σ f) else if x2 = n32 7 then (oB (F_X12_loads N (mk σ f)) fun y23 σ24 => some (aI σ24 294 l, σ24)) else some (m1, mk σ f)) (fun z σ2 => y = z ∧ ∃ f' W, σ2 = mk σ f' ∧ IV σ f' W) → Ok (F_X12_told N (n32 l) x2 (mk σ f)) (fun z σ2 => y = z ∧ ∃ f' W, σ2 = mk σ f' ∧ IV σ f' W) := by
        intro y h
        unfold F_X12_told J_X12_told_15
        simp only [s_isLot, oB_s, bI_0, bI_n0]
        with_reducible refine ok_ini ?_ ?_
        · rw [mk_I, e37]
          exact fun q => q hv
        with_reducible refine ok_ipi ?_ ?_
        · rw [mk_I, e53]
          decide
        have cz : ¬ (n32 l < 0 ∨ 24 ≤ (n32 l).toNatClampNeg) := by first | assumption | omega | (simp (disch := omega) only [n32_of, neg_n32_1, n32_nat, n32_lt, n32_le, n32_eq, n32_add, n32_sub, n32_mul, n32_m1, m1_n32, n32_addm1, m1_lt, lt_m1, m1_le, le_m1, m1_add1, ofNat_n32, u2_self, u2_n, mk_I, mk_T, ne_eq, not_true_eq_false, not_false_eq_true, ]; first | done | omega)
        simp only [cO_t cz]
        simp (disch := omega) only [n32_of, neg_n32_1, n32_nat, n32_lt, n32_le, n32_eq, n32_add, n32_sub, n32_mul, n32_m1, m1_n32, n32_addm1, m1_lt, lt_m1, m1_le, le_m1, m1_add1, ofNat_n32, u2_self, u2_n, mk_I, mk_T, c0, c1, c2, c3, c4, c5, c6]
        exact h
      with_reducible refine ok_cOi (by first | assumption | omega | (simp (disch := omega) only [n32_of, neg_n32_1, n32_nat, n32_lt, n32_le, n32_eq, n32_add, n32_sub, n32_mul, n32_m1, m1_n32, n32_addm1, m1_lt, lt_m1, m1_le, le_m1, m1_add1, ofNat_n32, u2_self, u2_n, mk_I, mk_T, ne_eq, not_true_eq_false, not_false_eq_true, ]; first | done | omega)) ?_
      refine ok_oB ?_
      simp (disch := omega) only [n32_of, neg_n32_1, n32_nat, n32_lt, n32_le, n32_eq, n32_add, n32_sub, n32_mul, n32_m1, m1_n32, n32_addm1, m1_lt, lt_m1, m1_le, le_m1, m1_add1, ofNat_n32, u2_self, u2_n, mk_I, mk_T, w0, w1, w2, w3, w4, w5, w6, w7]
      by_cases d0 : x2 = n32 0
      · refine ok_ipi d0 (ok_some (ok_some (hQ _ _ (rs _ ?_))))
        rw [if_pos d0]
        exact ok_some ⟨rfl, IV_mk hI0⟩
      refine ok_ini d0 ?_
      by_cases d1 : x2 = n32 1
      · refine ok_ipi d1 (ok_some (ok_some (hQ _ _ (rs _ ?_))))
        rw [if_neg d0, if_pos d1]
        exact ok_some ⟨rfl, IV_mk hI0⟩
      refine ok_ini d1 ?_
      by_cases d2 : x2 = n32 2
      · refine ok_ipi d2 (ok_some (ok_some (hQ _ _ (rs _ ?_))))
        rw [if_neg d0, if_neg d1, if_pos d2]
        exact ok_some ⟨rfl, IV_mk hI0⟩
      refine ok_ini d2 ?_
      by_cases d3 : x2 = n32 3
      · refine ok_ipi d3 (ok_some (ok_some (hQ _ _ (rs _ ?_))))
        rw [if_neg d0, if_neg d1, if_neg d2, if_pos d3]
        exact ok_some ⟨rfl, IV_mk hI0⟩
      refine ok_ini d3 ?_
      by_cases d4 : x2 = n32 4
      · refine ok_ipi d4 (ok_some (ok_some (hQ _ _ (rs _ ?_))))
        rw [if_neg d0, if_neg d1, if_neg d2, if_neg d3, if_pos d4]
        exact ok_some ⟨rfl, IV_mk hI0⟩
      refine ok_ini d4 ?_
      by_cases d5 : x2 = n32 5
      · refine ok_ipi d5 (ok_some (ok_some (hQ _ _ (rs _ ?_))))
        rw [if_neg d0, if_neg d1, if_neg d2, if_neg d3, if_neg d4, if_pos d5]
        exact ok_some ⟨rfl, IV_mk hI0⟩
      refine ok_ini d5 ?_
      by_cases d6 : x2 = n32 6
      · refine ok_ipi d6 (ok_some (ok_some (hQ _ _ (rs _ ?_))))
        rw [if_neg d0, if_neg d1, if_neg d2, if_neg d3, if_neg d4, if_neg d5, if_pos d6]
        exact ok_some ⟨rfl, IV_mk hI0⟩
      refine ok_ini d6 ?_
      by_cases d7 : x2 = n32 7
      · refine ok_ipi d7 (ok_some (ok_some (hQ _ _ (rs _ ?_))))
        rw [if_neg d0, if_neg d1, if_neg d2, if_neg d3, if_neg d4, if_neg d5, if_neg d6, if_pos d7]
        refine ok_oB (ok_mono (r_loads hN h3.1 (h7 rfl).1 h4.1 (fr_of h3 h4 h7)) ?_)
        rintro _ _ ⟨f', rfl, e', w⟩
        exact ok_some ⟨(w l hl).symm, IV_mk (IVx_cg hI0 (fun a k hk => e' a k (nvLd hk)))⟩
      refine ok_ini d7 (ok_some (ok_some (hQ _ _ (rs _ ?_))))
      rw [if_neg d0, if_neg d1, if_neg d2, if_neg d3, if_neg d4, if_neg d5, if_neg d6, if_neg d7]
      exact ok_some ⟨rfl, IV_mk hI0⟩
    · with_reducible refine ok_ini ?_ ?_
      · rw [mk_I, e11]
        exact hv
      refine ok_some (hQ _ _ (fail ?_))
      unfold F_X12_told J_X12_told_15
      simp only [s_isLot, oB_s, bI_0, bI_n0]
      with_reducible refine ok_ipi ?_ ?_
      · rw [mk_I, e37]
        exact hv
      exact ok_some ⟨rfl, rfl⟩
set_option maxHeartbeats 400000 in
theorem op_limit (hN : 10000 ≤ N) (x1 x2 : Int32) (hI : IVx σ f len D Y s dr st le ha sp nl rt lw) : Same σ (F_X11_limit N x1 x2) (F_X12_limit N x1 x2) f := by
  have hI0 := hI
  obtain ⟨t, h2, h3, h4, h5, h6, h7, h8⟩ := hI
  have n24 := h3.1.1
  have m6 := h3.1.2.1
  have e11 := h3.2.1.1
  have e37 := h3.2.2.1
  have e3 := h3.2.1.2.1
  have e43 := h3.2.2.2.1
  have fail : ∀ {R : Option (Int32 × aSt)}, Ok R (fun z σ2 => z = -1 ∧ σ2 = mk σ f) → Ok R (fun z σ2 => (-1 : Int32) = z ∧ ∃ f' W, σ2 = mk σ f' ∧ IV σ f' W) := fun h => ok_mono h (fun z σ2 q => ⟨q.1.symm, by rw [q.2]; exact IV_mk hI0⟩)
  refine same_q (fun Q hQ => ?_)
  unfold F_X11_limit J_X11_limit_22
  simp only [s_hasLot, s_hasBuyer, oB_s, bI_0, bI_n0]
  by_cases hb : ¬ x1 < 0 ∧ x1 < n32 (hm D)
  · by_cases hl : ¬ x2 < 0 ∧ x2 < n32 (hn D)
    · with_reducible refine ok_ini ?_ ?_
      · rw [mk_I, e3]
        exact fun q => q hb
      with_reducible refine ok_ipi ?_ ?_
      · rw [mk_I, e11]
        exact hl
      obtain ⟨b, hb2, rfl⟩ := rng_lt (by omega) hb.1 hb.2
      obtain ⟨l, hl2, rfl⟩ := rng_lt (by omega) hl.1 hl.2
      obtain ⟨p1, p2, p3, p4⟩ := h6.1 b hb2
      obtain ⟨⟨i1, i2⟩, i3⟩ := h8
      have T := i3 (b + 1) (by omega)
      have T1 := i2 (b + 1) (by omega)
      rw [txW_s] at T T1
      with_reducible refine ok_cOi (by first | assumption | omega | (simp (disch := omega) only [n32_of, neg_n32_1, n32_nat, n32_lt, n32_le, n32_eq, n32_add, n32_sub, n32_mul, n32_m1, m1_n32, n32_addm1, m1_lt, lt_m1, m1_le, le_m1, m1_add1, ofNat_n32, u2_self, u2_n, mk_I, mk_T, ne_eq, not_true_eq_false, not_false_eq_true, ]; first | done | omega)) ?_
      rw [n32_nat (by omega)]
      refine ok_oB (ok_mono (x_limit (by omega) h3.1 h3.2.1 hl2 hb2 p2 p1 (by omega) T1.1 T.2.1 T.1) ?_)
      rintro y _ ⟨rfl, f1, rfl, q0⟩
      refine ok_some (hQ _ _ ?_)
      unfold F_X12_limit J_X12_limit_16
      simp only [s_isLot, s_isBuyer, oB_s, bI_0, bI_n0]
      have s43 : f1 235 43 = n32 (hm D) := (q0 _ _ (by omega)).trans e43
      have s37 : f1 235 37 = n32 (hn D) := (q0 _ _ (by omega)).trans e37
      with_reducible refine ok_ini ?_ ?_
      · rw [mk_I, s43]
        exact fun q => q hb
      with_reducible refine ok_ipi ?_ ?_
      · rw [mk_I, s37]
        exact hl
      refine ok_oB (ok_mono (r_stands (by omega)) ?_)
      rintro _ _ ⟨f2, rfl, q1, u1, u2⟩
      have hNR : NR f2 ha sp := ⟨fun b' k hb' hk => (u1 _ (by omega)).trans ((q0 _ _ (by omega)).trans (h6.2.1 b' k hb' hk)), fun b' hb' => (u2 _ hb').trans ((q0 _ _ (by omega)).trans (h6.2.2.1 b' hb').1)⟩
      have hv : eqV vis f f2 := fun a k hk => (q1 a k (by have := nvS hk; omega)).trans (q0 a k (nvX hk))
      refine ok_oB (ok_mono (r_limit hN h3.1 (HR_V h3.2.2 (fun a k hk => hv a k (vH hk))) hl2 hb2 hNR p1 T.2.2.1 ((hv _ _ (vX (by omega))).trans T.2.2.2.1) (RT_V (RPg_self T.2.2.2.2) (fun a k c1 c2 => hv a k (vX (by omega)))) T.1) ?_)
      rintro y _ ⟨rfl, f3, rfl, q3⟩
      exact ok_some ⟨rfl, IV_mk (IVx_cg hI0 (fun a k hk => (q3 a k (by have := nvS hk; omega)).trans (hv a k hk)))⟩
    · with_reducible refine ok_ini ?_ ?_
      · rw [mk_I, e3]
        exact fun q => q hb
      with_reducible refine ok_ini ?_ ?_
      · rw [mk_I, e11]
        exact hl
      refine ok_some (hQ _ _ (fail ?_))
      unfold F_X12_limit J_X12_limit_16
      simp only [s_isLot, s_isBuyer, oB_s, bI_0, bI_n0]
      with_reducible refine ok_ini ?_ ?_
      · rw [mk_I, e43]
        exact fun q => q hb
      with_reducible refine ok_ini ?_ ?_
      · rw [mk_I, e37]
        exact hl
      exact ok_some ⟨rfl, rfl⟩
  · with_reducible refine ok_ipi ?_ ?_
    · rw [mk_I, e3]
      exact hb
    refine ok_some (hQ _ _ (fail ?_))
    unfold F_X12_limit J_X12_limit_16
    simp only [s_isLot, s_isBuyer, oB_s, bI_0, bI_n0]
    with_reducible refine ok_ipi ?_ ?_
    · rw [mk_I, e43]
      exact hb
    exact ok_some ⟨rfl, rfl⟩
set_option maxHeartbeats 400000 in
theorem op_rule (hN : 10000 ≤ N) (x1 x2 : Int32) (hI : IVx σ f len D Y s dr st le ha sp nl rt lw) : Same σ (F_X11_rule N x1 x2) (F_X12_rule N x1 x2) f := by
  have hI0 := hI
  obtain ⟨t, h2, h3, h4, h5, h6, h7, h8⟩ := hI
  have n24 := h3.1.1
  have m6 := h3.1.2.1
  have e11 := h3.2.1.1
  have e37 := h3.2.2.1
  have e3 := h3.2.1.2.1
  have e43 := h3.2.2.2.1
  have fail : ∀ {R : Option (Int32 × aSt)}, Ok R (fun z σ2 => z = -1 ∧ σ2 = mk σ f) → Ok R (fun z σ2 => (-1 : Int32) = z ∧ ∃ f' W, σ2 = mk σ f' ∧ IV σ f' W) := fun h => ok_mono h (fun z σ2 q => ⟨q.1.symm, by rw [q.2]; exact IV_mk hI0⟩)
  refine same_q (fun Q hQ => ?_)
  unfold F_X11_rule J_X11_rule_22
  simp only [s_hasLot, s_hasBuyer, oB_s, bI_0, bI_n0]
  by_cases hb : ¬ x1 < 0 ∧ x1 < n32 (hm D)
  · by_cases hl : ¬ x2 < 0 ∧ x2 < n32 (hn D)
    · with_reducible refine ok_ini ?_ ?_
      · rw [mk_I, e3]
        exact fun q => q hb
      with_reducible refine ok_ipi ?_ ?_
      · rw [mk_I, e11]
        exact hl
      obtain ⟨b, hb2, rfl⟩ := rng_lt (by omega) hb.1 hb.2
      obtain ⟨l, hl2, rfl⟩ := rng_lt (by omega) hl.1 hl.2
      obtain ⟨p1, p2, p3, p4⟩ := h6.1 b hb2
      obtain ⟨⟨i1, i2⟩, i3⟩ := h8
      have T := i3 (b + 1) (by omega)
      have T1 := i2 (b + 1) (by omega)
      rw [txW_s] at T T1
      have t6 := tx_6 T1.1
      with_reducible refine ok_cOi (by first | assumption | omega | (simp (disch := omega) only [n32_of, neg_n32_1, n32_nat, n32_lt, n32_le, n32_eq, n32_add, n32_sub, n32_mul, n32_m1, m1_n32, n32_addm1, m1_lt, lt_m1, m1_le, le_m1, m1_add1, ofNat_n32, u2_self, u2_n, mk_I, mk_T, ne_eq, not_true_eq_false, not_false_eq_true, ]; first | done | omega)) ?_
      rw [n32_nat (by omega)]
      unfold F_X2_bidRuleOf
      refine ok_oB (ok_oB (ok_mono (x_setBuyer h3.1 h3.2.1 hl2 hb2 p2 p1 (by omega)) ?_))
      rintro _ _ ⟨f1, rfl, q0, v0⟩
      with_reducible refine ok_cOi (by first | assumption | omega | (simp (disch := omega) only [n32_of, neg_n32_1, n32_nat, n32_lt, n32_le, n32_eq, n32_add, n32_sub, n32_mul, n32_m1, m1_n32, n32_addm1, m1_lt, lt_m1, m1_le, le_m1, m1_add1, ofNat_n32, u2_self, u2_n, mk_I, mk_T, ne_eq, not_true_eq_false, not_false_eq_true, ]; first | done | omega)) ?_
      rw [n32_nat (by omega), mk_T]
      refine ok_oB (ok_mono (x_firstF (w := 0) (by omega) t6.2 T.1 (by omega) (XT_x T.2.1 q0 (by have := tx_in T1.1; omega))) ?_)
      rintro y _ ⟨rfl, f2, rfl, q1⟩
      refine ok_some (ok_some (hQ _ _ ?_))
      unfold F_X12_rule J_X12_rule_16
      simp only [s_isLot, s_isBuyer, oB_s, bI_0, bI_n0]
      have hv2 : eqV vis f f2 := fun a k hk => (q1 a k (fun e => nvX hk (e ▸ t6.1))).trans (q0 a k (fun e => nvX hk (Or.inl e)))
      have s43 : f2 235 43 = n32 (hm D) := (hv2 _ _ (vH (by omega))).trans e43
      have s37 : f2 235 37 = n32 (hn D) := (hv2 _ _ (vH (by omega))).trans e37
      with_reducible refine ok_ini ?_ ?_
      · rw [mk_I, s43]
        exact fun q => q hb
      with_reducible refine ok_ipi ?_ ?_
      · rw [mk_I, s37]
        exact hl
      refine ok_oB (ok_mono (r_stands (by omega)) ?_)
      rintro _ _ ⟨f3, rfl, q3, u1, u2⟩
      have hNR : NR f3 ha sp := ⟨fun b' k hb' hk => (u1 _ (by omega)).trans ((hv2 _ _ (vP (by omega))).trans (h6.2.1 b' k hb' hk)), fun b' hb' => (u2 _ hb').trans ((hv2 _ _ (vP (by omega))).trans (h6.2.2.1 b' hb').1)⟩
      have hv3 : eqV vis f f3 := fun a k hk => (q3 a k (by have := nvS hk; omega)).trans (hv2 a k hk)
      refine ok_oB (ok_mono (r_asksB h3.1 (HR_V h3.2.2 (fun a k hk => hv3 a k (vH hk))) hl2 hb2 hNR p1) ?_)
      rintro _ _ ⟨f4, rfl, q4, v4⟩
      have hv4 : eqV vis f f4 := fun a k hk => (q4 a k (by have := nvS hk; omega)).trans (hv3 a k hk)
      rw [show n32 b + 1 = n32 (b + 1) from n32_add b 1]
      refine ok_oB (ok_mono (r_ruleF (w := 0) hN (by omega) T.2.2.1 ((hv4 _ _ (vX (by omega))).trans T.2.2.2.1) T.1 (by omega) (RT_V (RPg_self T.2.2.2.2) (fun a k c1 c2 => hv4 a k (vX (by omega))))) ?_)
      rintro y _ ⟨rfl, f5, rfl, q5⟩
      refine ok_some ⟨?_, IV_mk (IVx_cg hI0 (fun a k hk => (q5 a k (by have := nvS hk; omega)).trans (hv4 a k hk)))⟩
      exact fst_cg (fun k hk => (v0 k hk).trans (v4 k hk).symm) 0 _ _
    · with_reducible refine ok_ini ?_ ?_
      · rw [mk_I, e3]
        exact fun q => q hb
      with_reducible refine ok_ini ?_ ?_
      · rw [mk_I, e11]
        exact hl
      refine ok_some (hQ _ _ (fail ?_))
      unfold F_X12_rule J_X12_rule_16
      simp only [s_isLot, s_isBuyer, oB_s, bI_0, bI_n0]
      with_reducible refine ok_ini ?_ ?_
      · rw [mk_I, e43]
        exact fun q => q hb
      with_reducible refine ok_ini ?_ ?_
      · rw [mk_I, e37]
        exact hl
      exact ok_some ⟨rfl, rfl⟩
  · with_reducible refine ok_ipi ?_ ?_
    · rw [mk_I, e3]
      exact hb
    refine ok_some (hQ _ _ (fail ?_))
    unfold F_X12_rule J_X12_rule_16
    simp only [s_isLot, s_isBuyer, oB_s, bI_0, bI_n0]
    with_reducible refine ok_ipi ?_ ?_
    · rw [mk_I, e43]
      exact hb
    exact ok_some ⟨rfl, rfl⟩
end OPS5
