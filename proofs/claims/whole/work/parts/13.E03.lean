def NR (f : Nat → Nat → Int32) (ha : Nat → Nat → Nat) (sp : Nat → Nat) : Prop := (∀ b k, b < 6 → k < 6 → f 276 (6 * b + k) = n32 (ha b k)) ∧ ∀ b, b < 6 → f 277 b = n32 (sp b)
theorem NR_S {S : Nat → Prop} {f f' : Nat → Nat → Int32} {ha : Nat → Nat → Nat} {sp : Nat → Nat} (h : NR f ha sp) (e : eqS S f f') (h1 : ¬ S 276) (h2 : ¬ S 277) : NR f' ha sp := ⟨fun b k hb hk => (e _ _ h1).trans (h.1 b k hb hk), fun b hb => (e _ _ h2).trans (h.2 b hb)⟩
theorem r_left {N b k : Nat} {σ : aSt} {f : Nat → Nat → Int32} {D : HD} {ha : Nat → Nat → Nat} {sp : Nat → Nat} (hD : HOK D) (hR : HR f D) (hb : b < 6) (hk : k < 6) (hNR : NR f ha sp) (hl : ha b k ≤ 1000) : F_X12_left N (n32 b) (n32 k) (mk σ f) = some (n32 (wn D b k - ha b k), mk σ f) := by
  have h6 := hR.2.2.2.2.2 b k hb hk
  have hh := hNR.1 b k hb hk
  have d3 := hD.2.2.2.2 b k hb hk
  unfold F_X12_left J_X12_left_33
  rw [cO_t (by first | assumption | omega | (simp (disch := omega) only [n32_of, neg_n32_1, n32_nat, n32_lt, n32_le, n32_eq, n32_add, n32_sub, n32_mul, n32_m1, m1_n32, n32_addm1, m1_lt, lt_m1, m1_le, le_m1, m1_add1, ofNat_n32, u2_self, u2_n, mk_I, mk_T, ne_eq, not_true_eq_false, not_false_eq_true, ]; first | done | omega)), cO_t (by first | assumption | omega | (simp (disch := omega) only [n32_of, neg_n32_1, n32_nat, n32_lt, n32_le, n32_eq, n32_add, n32_sub, n32_mul, n32_m1, m1_n32, n32_addm1, m1_lt, lt_m1, m1_le, le_m1, m1_add1, ofNat_n32, u2_self, u2_n, mk_I, mk_T, ne_eq, not_true_eq_false, not_false_eq_true, ]; first | done | omega))]
  simp (disch := omega) only [n32_of, neg_n32_1, n32_nat, n32_lt, n32_le, n32_eq, n32_add, n32_sub, n32_mul, n32_m1, m1_n32, n32_addm1, m1_lt, lt_m1, m1_le, le_m1, m1_add1, ofNat_n32, u2_self, u2_n, mk_I, mk_T, h6, hh]
  by_cases hc : ha b k ≤ wn D b k
  · rw [n32_sub hc]
    by_cases h0 : wn D b k - ha b k = 0
    · rw [h0, if_pos (by first | assumption | omega | (simp (disch := omega) only [n32_of, neg_n32_1, n32_nat, n32_lt, n32_le, n32_eq, n32_add, n32_sub, n32_mul, n32_m1, m1_n32, n32_addm1, m1_lt, lt_m1, m1_le, le_m1, m1_add1, ofNat_n32, u2_self, u2_n, mk_I, mk_T, ne_eq, not_true_eq_false, not_false_eq_true, ]; first | done | omega))]
    · rw [if_neg (by first | assumption | omega | (simp (disch := omega) only [n32_of, neg_n32_1, n32_nat, n32_lt, n32_le, n32_eq, n32_add, n32_sub, n32_mul, n32_m1, m1_n32, n32_addm1, m1_lt, lt_m1, m1_le, le_m1, m1_add1, ofNat_n32, u2_self, u2_n, mk_I, mk_T, ne_eq, not_true_eq_false, not_false_eq_true, ]; first | done | omega))]
  · have e : wn D b k - ha b k = 0 := by omega
    rw [e, if_pos]
    rw [Int32.le_iff_toInt_le, n32_toInt (by omega), Int32.toInt_sub, n32_toInt (by omega), n32_toInt (by omega), Int.bmod_eq_of_le] <;> omega
theorem r_asksL {N i : Nat} {σ : aSt} {f : Nat → Nat → Int32} {D : HD} (hD : HOK D) (hR : HR f D) (hi : i < hn D) : Ok (F_X12_asks N (-1) (n32 i) (mk σ f)) (fun _ σ' => ∃ f', σ' = mk σ f' ∧ eqx f f' 274 ∧ ∀ k, k < 10 → f' 274 k = lv D i k) := by
  obtain ⟨h1, h2, h3, h4, h5, h6⟩ := hR
  obtain ⟨n24, m6, d1, d2, d3⟩ := hD
  have di := d1 i hi
  have e0 := h3 0 i (by omega) hi
  have e1 := h3 1 i (by omega) hi
  have e2 := h3 2 i (by omega) hi
  have e3 := h3 3 i (by omega) hi
  have e4 := h3 4 i (by omega) hi
  have e5 := h4 (lo D 1 i) (by omega)
  unfold F_X12_asks J_X12_asks_108 J_X12_asks_135 J_X12_asks_164
  repeat (first | with_reducible refine ok_W ?_ | with_reducible refine ok_cO (by first | assumption | omega | (simp (disch := omega) only [n32_of, neg_n32_1, n32_nat, n32_lt, n32_le, n32_eq, n32_add, n32_sub, n32_mul, n32_m1, m1_n32, n32_addm1, m1_lt, lt_m1, m1_le, le_m1, m1_add1, ofNat_n32, u2_self, u2_n, mk_I, mk_T, ne_eq, not_true_eq_false, not_false_eq_true, e1]; first | done | omega)) ?_ | with_reducible refine ok_ip (by first | assumption | omega | (simp (disch := omega) only [n32_of, neg_n32_1, n32_nat, n32_lt, n32_le, n32_eq, n32_add, n32_sub, n32_mul, n32_m1, m1_n32, n32_addm1, m1_lt, lt_m1, m1_le, le_m1, m1_add1, ofNat_n32, u2_self, u2_n, mk_I, mk_T, ne_eq, not_true_eq_false, not_false_eq_true, e1]; first | done | omega)) ?_ | with_reducible refine ok_in (by first | assumption | omega | (simp (disch := omega) only [n32_of, neg_n32_1, n32_nat, n32_lt, n32_le, n32_eq, n32_add, n32_sub, n32_mul, n32_m1, m1_n32, n32_addm1, m1_lt, lt_m1, m1_le, le_m1, m1_add1, ofNat_n32, u2_self, u2_n, mk_I, mk_T, ne_eq, not_true_eq_false, not_false_eq_true, e1]; first | done | omega)) ?_)
  refine ok_some ⟨_, rfl, ?_, ?_⟩
  · intro b k hb
    simp (disch := omega) only [n32_of, neg_n32_1, n32_nat, n32_lt, n32_le, n32_eq, n32_add, n32_sub, n32_mul, n32_m1, m1_n32, n32_addm1, m1_lt, lt_m1, m1_le, le_m1, m1_add1, ofNat_n32, u2_self, u2_n, mk_I, mk_T, ]
  · intro k hk
    unfold lv pv
    rcases (show k = 0 ∨ k = 1 ∨ k = 2 ∨ k = 3 ∨ k = 4 ∨ k = 5 ∨ k = 6 ∨ k = 7 ∨ k = 8 ∨ k = 9 by omega) with rfl | rfl | rfl | rfl | rfl | rfl | rfl | rfl | rfl | rfl <;> simp (disch := omega) only [n32_of, neg_n32_1, n32_nat, n32_lt, n32_le, n32_eq, n32_add, n32_sub, n32_mul, n32_m1, m1_n32, n32_addm1, m1_lt, lt_m1, m1_le, le_m1, m1_add1, ofNat_n32, u2_self, u2_n, mk_I, e0, e1, e2, e3, e4, e5] <;> rfl
theorem r_asksB {N b i : Nat} {σ : aSt} {f : Nat → Nat → Int32} {D : HD} {ha : Nat → Nat → Nat} {sp : Nat → Nat} (hD : HOK D) (hR : HR f D) (hi : i < hn D) (hb : b < hm D) (hNR : NR f ha sp) (hPB : PB D ha sp b) : Ok (F_X12_asks N (n32 b) (n32 i) (mk σ f)) (fun _ σ' => ∃ f', σ' = mk σ f' ∧ eqx f f' 274 ∧ ∀ k, k < 10 → f' 274 k = bv D ha sp b i k) := by
  have hR0 := hR
  have hD0 := hD
  obtain ⟨h1, h2, h3, h4, h5, h6⟩ := hR
  obtain ⟨n24, m6, d1, d2, d3⟩ := hD
  have di := d1 i hi
  have e0 := h3 0 i (by omega) hi
  have e1 := h3 1 i (by omega) hi
  have e2 := h3 2 i (by omega) hi
  have e3 := h3 3 i (by omega) hi
  have e4 := h3 4 i (by omega) hi
  have e5 := h4 (lo D 1 i) (by omega)
  have c5 := (h5 b hb).2
  have dc := (d2 b hb).2
  have q1 := hNR.1 b (lo D 1 i) (by omega) (by omega)
  have q2 := hNR.2 b (by omega)
  have hpb2 := hPB.2
  simp only [Nat.reduceAdd] at e0 e1 e2 e3 e4
  unfold F_X12_asks J_X12_asks_108
  repeat (first | with_reducible refine ok_W ?_ | with_reducible refine ok_cO (by first | assumption | omega | (simp (disch := omega) only [n32_of, neg_n32_1, n32_nat, n32_lt, n32_le, n32_eq, n32_add, n32_sub, n32_mul, n32_m1, m1_n32, n32_addm1, m1_lt, lt_m1, m1_le, le_m1, m1_add1, ofNat_n32, u2_self, u2_n, mk_I, mk_T, ne_eq, not_true_eq_false, not_false_eq_true, e1]; first | done | omega)) ?_ | with_reducible refine ok_ip (by first | assumption | omega | (simp (disch := omega) only [n32_of, neg_n32_1, n32_nat, n32_lt, n32_le, n32_eq, n32_add, n32_sub, n32_mul, n32_m1, m1_n32, n32_addm1, m1_lt, lt_m1, m1_le, le_m1, m1_add1, ofNat_n32, u2_self, u2_n, mk_I, mk_T, ne_eq, not_true_eq_false, not_false_eq_true, e1]; first | done | omega)) ?_ | with_reducible refine ok_in (by first | assumption | omega | (simp (disch := omega) only [n32_of, neg_n32_1, n32_nat, n32_lt, n32_le, n32_eq, n32_add, n32_sub, n32_mul, n32_m1, m1_n32, n32_addm1, m1_lt, lt_m1, m1_le, le_m1, m1_add1, ofNat_n32, u2_self, u2_n, mk_I, mk_T, ne_eq, not_true_eq_false, not_false_eq_true, e1]; first | done | omega)) ?_)
  simp (disch := omega) only [n32_of, neg_n32_1, n32_nat, n32_lt, n32_le, n32_eq, n32_add, n32_sub, n32_mul, n32_m1, m1_n32, n32_addm1, m1_lt, lt_m1, m1_le, le_m1, m1_add1, ofNat_n32, u2_self, u2_n, mk_I, mk_T, e1, q1]
  refine ok_oB (ok_eq (r_left (ha := ha) (sp := sp) hD0 ?_ (by omega) (by omega) ?_ (hPB.1 _ (by omega))) (ok_some ?_))
  · refine HR_S (S := scR) hR0 ?_ (by omega) (fun a h1 h2 => by omega)
    intro a k hak
    simp (disch := omega) only [n32_of, neg_n32_1, n32_nat, n32_lt, n32_le, n32_eq, n32_add, n32_sub, n32_mul, n32_m1, m1_n32, n32_addm1, m1_lt, lt_m1, m1_le, le_m1, m1_add1, ofNat_n32, u2_self, u2_n, mk_I, mk_T, ]
  · refine NR_S (S := scR) hNR ?_ (by omega) (by omega)
    intro a k hak
    simp (disch := omega) only [n32_of, neg_n32_1, n32_nat, n32_lt, n32_le, n32_eq, n32_add, n32_sub, n32_mul, n32_m1, m1_n32, n32_addm1, m1_lt, lt_m1, m1_le, le_m1, m1_add1, ofNat_n32, u2_self, u2_n, mk_I, mk_T, ]
  unfold J_X12_asks_135 J_X12_asks_164
  repeat (first | with_reducible refine ok_W ?_ | with_reducible refine ok_cO (by first | assumption | omega | (simp (disch := omega) only [n32_of, neg_n32_1, n32_nat, n32_lt, n32_le, n32_eq, n32_add, n32_sub, n32_mul, n32_m1, m1_n32, n32_addm1, m1_lt, lt_m1, m1_le, le_m1, m1_add1, ofNat_n32, u2_self, u2_n, mk_I, mk_T, ne_eq, not_true_eq_false, not_false_eq_true, ]; first | done | omega)) ?_ | with_reducible refine ok_ip (by first | assumption | omega | (simp (disch := omega) only [n32_of, neg_n32_1, n32_nat, n32_lt, n32_le, n32_eq, n32_add, n32_sub, n32_mul, n32_m1, m1_n32, n32_addm1, m1_lt, lt_m1, m1_le, le_m1, m1_add1, ofNat_n32, u2_self, u2_n, mk_I, mk_T, ne_eq, not_true_eq_false, not_false_eq_true, ]; first | done | omega)) ?_ | with_reducible refine ok_in (by first | assumption | omega | (simp (disch := omega) only [n32_of, neg_n32_1, n32_nat, n32_lt, n32_le, n32_eq, n32_add, n32_sub, n32_mul, n32_m1, m1_n32, n32_addm1, m1_lt, lt_m1, m1_le, le_m1, m1_add1, ofNat_n32, u2_self, u2_n, mk_I, mk_T, ne_eq, not_true_eq_false, not_false_eq_true, ]; first | done | omega)) ?_)
  refine ok_some ⟨_, rfl, ?_, ?_⟩
  · intro b k hb
    simp (disch := omega) only [n32_of, neg_n32_1, n32_nat, n32_lt, n32_le, n32_eq, n32_add, n32_sub, n32_mul, n32_m1, m1_n32, n32_addm1, m1_lt, lt_m1, m1_le, le_m1, m1_add1, ofNat_n32, u2_self, u2_n, mk_I, mk_T, ]
  · intro k hk
    unfold bv pv
    rcases (show k = 0 ∨ k = 1 ∨ k = 2 ∨ k = 3 ∨ k = 4 ∨ k = 5 ∨ k = 6 ∨ k = 7 ∨ k = 8 ∨ k = 9 by omega) with rfl | rfl | rfl | rfl | rfl | rfl | rfl | rfl | rfl | rfl <;> simp (disch := omega) only [n32_of, neg_n32_1, n32_nat, n32_lt, n32_le, n32_eq, n32_add, n32_sub, n32_mul, n32_m1, m1_n32, n32_addm1, m1_lt, lt_m1, m1_le, le_m1, m1_add1, ofNat_n32, u2_self, u2_n, mk_I, e0, e1, e2, e3, e4, e5, q1, q2, c5] <;> rfl
theorem s_held (N : Nat) (x m : Int32) (σ : aSt) (hm : 1 ≤ m) : F_X12_held N x 1 m σ = some (held x m, σ) := by
  unfold F_X12_held J_X12_held_19 held mx mn
  by_cases h1 : 1 ≤ x
  · rw [if_pos h1]
    by_cases h2 : x ≤ m
    · rw [if_pos h2, if_neg (Int32.not_lt.mpr h2)]
      by_cases h3 : (n32 1) < x
      · rw [if_pos h3]
      · have : x = 1 := Int32.le_antisymm (Int32.not_lt.mp h3) h1
        rw [if_neg h3, this]
        rfl
    · rw [if_neg h2, if_pos (Int32.not_le.mp h2)]
      by_cases h3 : (n32 1) < m
      · rw [if_pos h3]
      · have : m = 1 := Int32.le_antisymm (Int32.not_lt.mp h3) hm
        rw [if_neg h3, this]
        rfl
  · rw [if_neg h1]
    have hx := Int32.not_le.mp h1
    rw [if_neg (Int32.not_lt.mpr (Int32.le_trans (Int32.le_of_lt hx) hm)), if_neg (show ¬ n32 1 < x from Int32.not_lt.mpr (Int32.le_of_lt hx))]
    rfl
theorem held_1 (m : Int32) (hm : 1 ≤ m) : held (n32 1) m = n32 1 := by
  unfold held mx mn
  rw [if_neg (show ¬ m < n32 1 from Int32.not_lt.mpr hm), ite_self]
theorem r_start {N i l : Nat} {σ : aSt} {f : Nat → Nat → Int32} {D : HD} {rs : List Ru} (hN : 10000 ≤ N) (hD : HOK D) (hR : HR f D) (hi : i < hn D) (hl : l < 2) (hlv : f 243 0 = n32 l) (hT : RT f l rs) (hok : okT rs) : Ok (F_X12_startOf N (n32 i) (mk σ f)) (fun y σ' => y = startP D rs i ∧ ∃ f', σ' = mk σ f' ∧ eqS scR f f') := by
  unfold F_X12_startOf J_X12_startOf_36
  refine ok_bind (r_asksL hD hR hi) (fun y σ1 hq => ?_)
  obtain ⟨f1, rfl, he, hv⟩ := hq
  have he1 : eqS scR f f1 := eqx_S he (by omega)
  have hT1 : RT f1 (2 * 0 + l) rs := by
    rw [Nat.mul_zero, Nat.zero_add]
    exact RT_S hT he1 (fun a h1 h2 => by omega)
  have hl1 := (he 243 0 (by omega)).trans hlv
  refine ok_bind (r_ruleF (who := 0) hN (by omega) hl hl1 hok (show 1 < 3 by omega) hT1) (fun y σ2 hq => ?_)
  obtain ⟨rfl, f2, rfl, he2⟩ := hq
  have he12 : eqS scR f f2 := eqS_tr he1 (eqx_S he2 (by omega))
  unfold startP
  rw [fst_cg hv]
  rcases fst_vof (lv D i) 1 (n32 100) rs 0 with ⟨h1, h2⟩ | ⟨j, u, h1, h2, h3⟩
  · rw [h1, h2]
    with_reducible refine ok_in ?_ ?_
    · exact fun h => h rfl
    exact ok_some ⟨by decide, f2, rfl, he12⟩
  · rw [h2, h3, Nat.zero_add]
    have hlen := hok.1
    have hj := (List.getElem?_eq_some_iff.mp h1).1
    with_reducible refine ok_ip (by first | assumption | omega | (simp (disch := omega) only [n32_of, neg_n32_1, n32_nat, n32_lt, n32_le, n32_eq, n32_add, n32_sub, n32_mul, n32_m1, m1_n32, n32_addm1, m1_lt, lt_m1, m1_le, le_m1, m1_add1, ofNat_n32, u2_self, u2_n, mk_I, mk_T, ne_eq, not_true_eq_false, not_false_eq_true, ]; first | done | omega)) ?_
    have hT2 : RT f2 (2 * 0 + l) rs := RT_S (S := scR) hT1 (eqx_S he2 (by omega)) (fun a h1 h2 => by omega)
    refine ok_bind (r_term (who := 0) hN (by omega) hl ((he2 243 0 (by omega)).trans hl1) hok h1 hT2) (fun y σ3 hq => ?_)
    obtain ⟨rfl, f3, rfl, he3⟩ := hq
    rw [s_held _ _ _ _ (by decide), oB_s]
    have e22 : f2 274 = f1 274 := by
      funext k
      exact he2 274 k (by omega)
    rw [e22, val_cg hv]
    exact ok_some ⟨rfl, f3, rfl, eqS_tr he12 (eqx_S he3 (by omega))⟩
theorem r_least {N i l : Nat} {s : Int32} {σ : aSt} {f : Nat → Nat → Int32} {D : HD} {rs : List Ru} (hN : 10000 ≤ N) (hD : HOK D) (hR : HR f D) (hi : i < hn D) (hl : l < 2) (hlv : f 243 0 = n32 l) (hT : RT f l rs) (hok : okT rs) (hs : 1 ≤ s) : Ok (F_X12_leastOf N (n32 i) s (mk σ f)) (fun y σ' => y = leastP D rs i s ∧ ∃ f', σ' = mk σ f' ∧ eqS scR f f') := by
  unfold F_X12_leastOf J_X12_leastOf_33
  refine ok_bind (r_asksL hD hR hi) (fun y σ1 hq => ?_)
  obtain ⟨f1, rfl, he, hv⟩ := hq
  have he1 : eqS scR f f1 := eqx_S he (by omega)
  have hT1 : RT f1 (2 * 0 + l) rs := by
    rw [Nat.mul_zero, Nat.zero_add]
    exact RT_S hT he1 (fun a h1 h2 => by omega)
  have hl1 := (he 243 0 (by omega)).trans hlv
  refine ok_bind (r_ruleF (who := 0) hN (by omega) hl hl1 hok (show 2 < 3 by omega) hT1) (fun y σ2 hq => ?_)
  obtain ⟨rfl, f2, rfl, he2⟩ := hq
  have he12 : eqS scR f f2 := eqS_tr he1 (eqx_S he2 (by omega))
  unfold leastP
  rw [fst_cg hv]
  rcases fst_vof (lv D i) 2 (n32 1) rs 0 with ⟨h1, h2⟩ | ⟨j, u, h1, h2, h3⟩
  · rw [h1, h2]
    with_reducible refine ok_in ?_ ?_
    · exact fun h => h rfl
    exact ok_some ⟨(held_1 s hs).symm, f2, rfl, he12⟩
  · rw [h2, h3, Nat.zero_add]
    have hlen := hok.1
    have hj := (List.getElem?_eq_some_iff.mp h1).1
    with_reducible refine ok_ip (by first | assumption | omega | (simp (disch := omega) only [n32_of, neg_n32_1, n32_nat, n32_lt, n32_le, n32_eq, n32_add, n32_sub, n32_mul, n32_m1, m1_n32, n32_addm1, m1_lt, lt_m1, m1_le, le_m1, m1_add1, ofNat_n32, u2_self, u2_n, mk_I, mk_T, ne_eq, not_true_eq_false, not_false_eq_true, ]; first | done | omega)) ?_
    have hT2 : RT f2 (2 * 0 + l) rs := RT_S (S := scR) hT1 (eqx_S he2 (by omega)) (fun a h1 h2 => by omega)
    refine ok_bind (r_term (who := 0) hN (by omega) hl ((he2 243 0 (by omega)).trans hl1) hok h1 hT2) (fun y σ3 hq => ?_)
    obtain ⟨rfl, f3, rfl, he3⟩ := hq
    rw [s_held _ _ _ _ hs, oB_s]
    have e22 : f2 274 = f1 274 := by
      funext k
      exact he2 274 k (by omega)
    rw [e22, val_cg hv]
    exact ok_some ⟨rfl, f3, rfl, eqS_tr he12 (eqx_S he3 (by omega))⟩
theorem mn_alt (x y : Int32) : (if y ≤ x then y else x) = mn x y := by
  unfold mn
  by_cases h : y < x
  · rw [if_pos h, if_pos (Int32.le_of_lt h)]
  · rw [if_neg h]
    by_cases h2 : y ≤ x
    · rw [if_pos h2, Int32.le_antisymm h2 (Int32.not_lt.mp h)]
    · rw [if_neg h2]
theorem mn_0 {j : Nat} (h : j < 2147483648) : mn (n32 0) (n32 j) = n32 0 := by
  unfold mn
  rw [if_neg (by first | assumption | omega | (simp (disch := omega) only [n32_of, neg_n32_1, n32_nat, n32_lt, n32_le, n32_eq, n32_add, n32_sub, n32_mul, n32_m1, m1_n32, n32_addm1, m1_lt, lt_m1, m1_le, le_m1, m1_add1, ofNat_n32, u2_self, u2_n, mk_I, mk_T, ne_eq, not_true_eq_false, not_false_eq_true, ]; first | done | omega))]
theorem r_limit {N b i l : Nat} {σ : aSt} {f : Nat → Nat → Int32} {D : HD} {ha : Nat → Nat → Nat} {sp : Nat → Nat} {rs : List Ru} (hN : 10000 ≤ N) (hD : HOK D) (hR : HR f D) (hi : i < hn D) (hb : b < hm D) (hNR : NR f ha sp) (hPB : PB D ha sp b) (hl : l < 2) (hlv : f 243 (b + 1) = n32 l) (hT : RT f (2 * (b + 1) + l) rs) (hok : okT rs) : Ok (F_X12_limitOf N (n32 b) (n32 i) (mk σ f)) (fun y σ' => y = limP D rs ha sp b i ∧ ∃ f', σ' = mk σ f' ∧ eqS scR f f') := by
  have n24 := hD.1
  have m6 := hD.2.1
  have di := hD.2.2.1 i hi
  have db := hD.2.2.2.1 b hb
  have dw := hD.2.2.2.2 b (lo D 1 i) (by omega) (by omega)
  have hpb1 := hPB.1 (lo D 1 i) (by omega)
  have hpb2 := hPB.2
  have e1 : f 260 i = n32 (lo D 1 i) := hR.2.2.1 1 i (by omega) hi
  have e3 : f 262 i = n32 (lo D 3 i) := hR.2.2.1 3 i (by omega) hi
  unfold F_X12_limitOf J_X12_limitOf_90
  with_reducible refine ok_cO (by first | assumption | omega | (simp (disch := omega) only [n32_of, neg_n32_1, n32_nat, n32_lt, n32_le, n32_eq, n32_add, n32_sub, n32_mul, n32_m1, m1_n32, n32_addm1, m1_lt, lt_m1, m1_le, le_m1, m1_add1, ofNat_n32, u2_self, u2_n, mk_I, mk_T, ne_eq, not_true_eq_false, not_false_eq_true, ]; first | done | omega)) ?_
  simp (disch := omega) only [n32_of, neg_n32_1, n32_nat, n32_lt, n32_le, n32_eq, n32_add, n32_sub, n32_mul, n32_m1, m1_n32, n32_addm1, m1_lt, lt_m1, m1_le, le_m1, m1_add1, ofNat_n32, u2_self, u2_n, mk_I, mk_T, e1]
  rw [r_left (ha := ha) (sp := sp) hD hR (by omega) (by omega) hNR hpb1, oB_s]
  with_reducible refine ok_cO (by first | assumption | omega | (simp (disch := omega) only [n32_of, neg_n32_1, n32_nat, n32_lt, n32_le, n32_eq, n32_add, n32_sub, n32_mul, n32_m1, m1_n32, n32_addm1, m1_lt, lt_m1, m1_le, le_m1, m1_add1, ofNat_n32, u2_self, u2_n, mk_I, mk_T, ne_eq, not_true_eq_false, not_false_eq_true, ]; first | done | omega)) ?_
  unfold limP
  by_cases hw : wn D b (lo D 1 i) - ha b (lo D 1 i) < lo D 3 i
  · rw [if_pos hw]
    with_reducible refine ok_in (by first | assumption | omega | (simp (disch := omega) only [n32_of, neg_n32_1, n32_nat, n32_lt, n32_le, n32_eq, n32_add, n32_sub, n32_mul, n32_m1, m1_n32, n32_addm1, m1_lt, lt_m1, m1_le, le_m1, m1_add1, ofNat_n32, u2_self, u2_n, mk_I, mk_T, ne_eq, not_true_eq_false, not_false_eq_true, e3]; first | done | omega)) ?_
    exact ok_some ⟨rfl, f, rfl, eqS_rfl⟩
  · rw [if_neg hw]
    with_reducible refine ok_ip (by first | assumption | omega | (simp (disch := omega) only [n32_of, neg_n32_1, n32_nat, n32_lt, n32_le, n32_eq, n32_add, n32_sub, n32_mul, n32_m1, m1_n32, n32_addm1, m1_lt, lt_m1, m1_le, le_m1, m1_add1, ofNat_n32, u2_self, u2_n, mk_I, mk_T, ne_eq, not_true_eq_false, not_false_eq_true, e3]; first | done | omega)) ?_
    refine ok_bind (r_asksB hD hR hi hb hNR hPB) (fun y σ1 hq => ?_)
    obtain ⟨f1, rfl, he, hv⟩ := hq
    have he1 : eqS scR f f1 := eqx_S he (by omega)
    have hT1 := RT_S hT he1 (fun a h1 h2 => by omega)
    have hl1 := (he 243 (b + 1) (by omega)).trans hlv
    refine ok_bind (r_ruleF (who := b + 1) hN (by omega) hl hl1 hok (show 0 < 3 by omega) hT1) (fun y σ2 hq => ?_)
    obtain ⟨rfl, f2, rfl, he2⟩ := hq
    have he12 : eqS scR f f2 := eqS_tr he1 (eqx_S he2 (by omega))
    rw [fst_cg hv]
    have hdl : (cr D b - sp b) / lo D 3 i ≤ cr D b - sp b := Nat.div_le_self _ _
    rcases fst_vof (bv D ha sp b i) 0 (n32 0) rs 0 with ⟨h1, h2⟩ | ⟨j, u, h1, h2, h3⟩
    · rw [h1, h2]
      with_reducible refine ok_in ?_ ?_
      · exact fun h => h rfl
      exact ok_some ⟨(mn_0 (by omega)).symm, f2, rfl, he12⟩
    · rw [h2, h3, Nat.zero_add]
      have hlen := hok.1
      have hj := (List.getElem?_eq_some_iff.mp h1).1
      with_reducible refine ok_ip (by first | assumption | omega | (simp (disch := omega) only [n32_of, neg_n32_1, n32_nat, n32_lt, n32_le, n32_eq, n32_add, n32_sub, n32_mul, n32_m1, m1_n32, n32_addm1, m1_lt, lt_m1, m1_le, le_m1, m1_add1, ofNat_n32, u2_self, u2_n, mk_I, mk_T, ne_eq, not_true_eq_false, not_false_eq_true, ]; first | done | omega)) ?_
      have hT2 := RT_S (S := scR) hT1 (eqx_S he2 (by omega)) (fun a h1 h2 => by omega)
      refine ok_bind (r_term (who := b + 1) hN (by omega) hl ((he2 243 (b + 1) (by omega)).trans hl1) hok h1 hT2) (fun y σ3 hq => ?_)
      obtain ⟨rfl, f3, rfl, he3⟩ := hq
      have he13 : eqS scR f f3 := eqS_tr he12 (eqx_S he3 (by omega))
      have c5 := (he13 265 b (by omega)).trans (hR.2.2.2.2.1 b hb).2
      have c7 := (he13 277 b (by omega)).trans (hNR.2 b (by omega))
      have c3 := (he13 262 i (by omega)).trans e3
      with_reducible refine ok_cO (by first | assumption | omega | (simp (disch := omega) only [n32_of, neg_n32_1, n32_nat, n32_lt, n32_le, n32_eq, n32_add, n32_sub, n32_mul, n32_m1, m1_n32, n32_addm1, m1_lt, lt_m1, m1_le, le_m1, m1_add1, ofNat_n32, u2_self, u2_n, mk_I, mk_T, ne_eq, not_true_eq_false, not_false_eq_true, ]; first | done | omega)) ?_
      with_reducible refine ok_cO (by first | assumption | omega | (simp (disch := omega) only [n32_of, neg_n32_1, n32_nat, n32_lt, n32_le, n32_eq, n32_add, n32_sub, n32_mul, n32_m1, m1_n32, n32_addm1, m1_lt, lt_m1, m1_le, le_m1, m1_add1, ofNat_n32, u2_self, u2_n, mk_I, mk_T, ne_eq, not_true_eq_false, not_false_eq_true, ]; first | done | omega)) ?_
      with_reducible refine ok_cO (by first | assumption | omega | (simp (disch := omega) only [n32_of, neg_n32_1, n32_nat, n32_lt, n32_le, n32_eq, n32_add, n32_sub, n32_mul, n32_m1, m1_n32, n32_addm1, m1_lt, lt_m1, m1_le, le_m1, m1_add1, ofNat_n32, u2_self, u2_n, mk_I, mk_T, ne_eq, not_true_eq_false, not_false_eq_true, ]; first | done | omega)) ?_
      with_reducible refine ok_cO (by first | assumption | omega | (simp (disch := omega) only [n32_of, neg_n32_1, n32_nat, n32_lt, n32_le, n32_eq, n32_add, n32_sub, n32_mul, n32_m1, m1_n32, n32_addm1, m1_lt, lt_m1, m1_le, le_m1, m1_add1, ofNat_n32, u2_self, u2_n, mk_I, mk_T, ne_eq, not_true_eq_false, not_false_eq_true, c3]; first | done | omega)) ?_
      simp (disch := omega) only [n32_of, neg_n32_1, n32_nat, n32_lt, n32_le, n32_eq, n32_add, n32_sub, n32_mul, n32_m1, m1_n32, n32_addm1, m1_lt, lt_m1, m1_le, le_m1, m1_add1, ofNat_n32, u2_self, u2_n, mk_I, mk_T, c5, c7, c3]
      have e22 : f2 274 = f1 274 := by
        funext k
        exact he2 274 k (by omega)
      rw [e22, val_cg hv, n32_div (by omega) (by omega)]
      rw [← mn_alt]
      with_reducible refine ok_if (fun hc => ?_) (fun hc => ?_)
      · rw [if_pos hc]
        exact ok_some ⟨rfl, f3, rfl, he13⟩
      · rw [if_neg hc]
        exact ok_some ⟨rfl, f3, rfl, he13⟩
