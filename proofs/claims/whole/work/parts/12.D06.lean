theorem hol_hr (v : Nat → Int32) (rs : List Rl) (h : ∀ q, rs[0]? = some q → q.1 = true) (hne : rs ≠ []) : hr v rs false = hol v rs := by
  cases rs with
  | nil => exact absurd rfl hne
  | cons q rs =>
    rw [hr, hol, hf_hr, h q rfl]
    simp
theorem r_holdsF {N pg r : Nat} {σ : aSt} {u : Ru} {f : Nat → Nat → Int32} (hN : 10000 ≤ N) (hr : r < 20) (hpg : pg < 14) (hu : okR u) (h : RR f pg r u) : Ok (F_X12_holds N (n32 (20 * pg + r)) (n32 pg) (mk σ f)) (fun y σ' => y = bB (hol (f 274) u.2.2) ∧ ∃ f', σ' = mk σ f' ∧ eqx f f' 275) := by
  obtain ⟨p, a, g1, g2, g3, g4, g5, g6, g7, g8, g9⟩ := h
  unfold F_X12_holds
  with_reducible refine ok_cO (by first | assumption | omega | (simp (disch := omega) only [n32_of, neg_n32_1, n32_nat, n32_lt, n32_le, n32_eq, n32_add, n32_sub, n32_mul, n32_m1, m1_n32, n32_addm1, m1_lt, lt_m1, m1_le, le_m1, m1_add1, ofNat_n32, u2_self, u2_n, mk_I, mk_T, ne_eq, not_true_eq_false, not_false_eq_true, ]; first | done | omega)) ?_
  with_reducible refine ok_cO (by first | assumption | omega | (simp (disch := omega) only [n32_of, neg_n32_1, n32_nat, n32_lt, n32_le, n32_eq, n32_add, n32_sub, n32_mul, n32_m1, m1_n32, n32_addm1, m1_lt, lt_m1, m1_le, le_m1, m1_add1, ofNat_n32, u2_self, u2_n, mk_I, mk_T, ne_eq, not_true_eq_false, not_false_eq_true, ]; first | done | omega)) ?_
  cases hl : u.2.2 with
  | nil =>
    rw [hl] at g7
    have g7' : f 249 (20 * pg + r) = n32 a := g7
    with_reducible refine ok_in (by first | assumption | omega | (simp (disch := omega) only [n32_of, neg_n32_1, n32_nat, n32_lt, n32_le, n32_eq, n32_add, n32_sub, n32_mul, n32_m1, m1_n32, n32_addm1, m1_lt, lt_m1, m1_le, le_m1, m1_add1, ofNat_n32, u2_self, u2_n, mk_I, mk_T, ne_eq, not_true_eq_false, not_false_eq_true, g6, g7']; first | done | omega)) ?_
    with_reducible refine ok_cO ?_ ?_
    · decide
    exact ok_some ⟨rfl, f, rfl, fun _ _ _ => rfl⟩
  | cons q rs =>
    have hlen : 0 < u.2.2.length := by rw [hl]; exact Nat.succ_pos _
    with_reducible refine ok_ip (by first | assumption | omega | (simp (disch := omega) only [n32_of, neg_n32_1, n32_nat, n32_lt, n32_le, n32_eq, n32_add, n32_sub, n32_mul, n32_m1, m1_n32, n32_addm1, m1_lt, lt_m1, m1_le, le_m1, m1_add1, ofNat_n32, u2_self, u2_n, mk_I, mk_T, ne_eq, not_true_eq_false, not_false_eq_true, g6, g7]; first | done | omega)) ?_
    with_reducible refine ok_cO (by first | assumption | omega | (simp (disch := omega) only [n32_of, neg_n32_1, n32_nat, n32_lt, n32_le, n32_eq, n32_add, n32_sub, n32_mul, n32_m1, m1_n32, n32_addm1, m1_lt, lt_m1, m1_le, le_m1, m1_add1, ofNat_n32, u2_self, u2_n, mk_I, mk_T, ne_eq, not_true_eq_false, not_false_eq_true, ]; first | done | omega)) ?_
    rw [← hl]
    simp (disch := omega) only [n32_of, neg_n32_1, n32_nat, n32_lt, n32_le, n32_eq, n32_add, n32_sub, n32_mul, n32_m1, m1_n32, n32_addm1, m1_lt, lt_m1, m1_le, le_m1, m1_add1, ofNat_n32, u2_self, u2_n, mk_I, mk_T, g6]
    have := r_holds (rs := u.2.2) (σ := σ) hN (R := 20 * pg + r) (by omega) hpg hu.2.2.1 g8 N 0 false f (by omega) (by omega) g7 g9
    refine ok_mono this (fun y σ' hq => ?_)
    rw [List.drop_zero, hol_hr _ _ hu.2.2.2 (by rw [hl]; simp)] at hq
    exact hq
theorem r_rule {N pg w : Nat} {σ : aSt} {rs : List Ru} (hN : 10000 ≤ N) (hpg : pg < 14) (hok : okT rs) (hw : w < 3) : ∀ (n r : Nat) (f : Nat → Nat → Int32), rs.length < n + r → r ≤ rs.length → RT f pg rs → Ok (H_X12_ruleOf_14 N n (n32 w) (n32 pg) (n32 r) (mk σ f)) (fun y σ' => y = fst (f 274) w (rs.drop r) r ∧ ∃ f', σ' = mk σ f' ∧ eqx f f' 275) := by
  intro n
  induction n with
  | zero => intro r f h1 h2 h3; omega
  | succ n ih =>
    intro r f h1 h2 hX
    have hl := hok.1
    have hX0 := hX
    obtain ⟨x0, x3⟩ := hX
    rw [H_X12_ruleOf_14]
    with_reducible refine ok_cO (by first | assumption | omega | (simp (disch := omega) only [n32_of, neg_n32_1, n32_nat, n32_lt, n32_le, n32_eq, n32_add, n32_sub, n32_mul, n32_m1, m1_n32, n32_addm1, m1_lt, lt_m1, m1_le, le_m1, m1_add1, ofNat_n32, u2_self, u2_n, mk_I, mk_T, ne_eq, not_true_eq_false, not_false_eq_true, ]; first | done | omega)) ?_
    by_cases hr : rs.length ≤ r
    · with_reducible refine ok_ip (by first | assumption | omega | (simp (disch := omega) only [n32_of, neg_n32_1, n32_nat, n32_lt, n32_le, n32_eq, n32_add, n32_sub, n32_mul, n32_m1, m1_n32, n32_addm1, m1_lt, lt_m1, m1_le, le_m1, m1_add1, ofNat_n32, u2_self, u2_n, mk_I, mk_T, ne_eq, not_true_eq_false, not_false_eq_true, x0]; first | done | omega)) ?_
      refine ok_some ⟨?_, f, rfl, fun _ _ _ => rfl⟩
      rw [List.drop_eq_nil_of_le hr]
      rfl
    · with_reducible refine ok_in (by first | assumption | omega | (simp (disch := omega) only [n32_of, neg_n32_1, n32_nat, n32_lt, n32_le, n32_eq, n32_add, n32_sub, n32_mul, n32_m1, m1_n32, n32_addm1, m1_lt, lt_m1, m1_le, le_m1, m1_add1, ofNat_n32, u2_self, u2_n, mk_I, mk_T, ne_eq, not_true_eq_false, not_false_eq_true, x0]; first | done | omega)) ?_
      with_reducible refine ok_cO (by first | assumption | omega | (simp (disch := omega) only [n32_of, neg_n32_1, n32_nat, n32_lt, n32_le, n32_eq, n32_add, n32_sub, n32_mul, n32_m1, m1_n32, n32_addm1, m1_lt, lt_m1, m1_le, le_m1, m1_add1, ofNat_n32, u2_self, u2_n, mk_I, mk_T, ne_eq, not_true_eq_false, not_false_eq_true, ]; first | done | omega)) ?_
      have hlt : r < rs.length := by omega
      have hget : rs[r]? = some rs[r] := List.getElem?_eq_getElem hlt
      generalize hu : rs[r] = u at hget
      have hku := hok.2 u (List.mem_of_getElem? hget)
      have hdrop : rs.drop r = u :: rs.drop (r + 1) := by rw [List.drop_eq_getElem_cons hlt, hu]
      rw [hdrop, fst]
      have hRR := x3 r u hget
      obtain ⟨p, a, g1, -⟩ := hRR
      have hu3 := hku.1
      have next : ∀ f1, eqx f f1 275 → Ok (H_X12_ruleOf_14 N n (n32 w) (n32 pg) (n32 (r + 1)) (mk σ f1)) (fun y σ' => y = fst (f 274) w (rs.drop (r + 1)) (r + 1) ∧ ∃ f', σ' = mk σ f' ∧ eqx f f' 275) := by
        intro f1 he
        refine ok_mono (ih (r + 1) f1 (by omega) (by omega) (RT_x hX0 he (by omega))) (fun y σ' hq => ?_)
        have e22 : f1 274 = f 274 := by
          funext k
          exact he 274 k (by omega)
        rw [e22] at hq
        exact ⟨hq.1, hq.2.choose, hq.2.choose_spec.1, fun b k hb => (hq.2.choose_spec.2 b k hb).trans (he b k hb)⟩
      unfold J_X12_ruleOf_59
      by_cases hww : u.1 = w
      · with_reducible refine ok_in (by first | assumption | omega | (simp (disch := omega) only [n32_of, neg_n32_1, n32_nat, n32_lt, n32_le, n32_eq, n32_add, n32_sub, n32_mul, n32_m1, m1_n32, n32_addm1, m1_lt, lt_m1, m1_le, le_m1, m1_add1, ofNat_n32, u2_self, u2_n, mk_I, mk_T, ne_eq, not_true_eq_false, not_false_eq_true, g1]; first | done | omega)) ?_
        simp (disch := omega) only [n32_of, neg_n32_1, n32_nat, n32_lt, n32_le, n32_eq, n32_add, n32_sub, n32_mul, n32_m1, m1_n32, n32_addm1, m1_lt, lt_m1, m1_le, le_m1, m1_add1, ofNat_n32, u2_self, u2_n, mk_I, mk_T, ]
        refine ok_bind (r_holdsF hN (by omega) hpg hku (x3 r u hget)) (fun y σ1 hq => ?_)
        obtain ⟨rfl, f1, rfl, he⟩ := hq
        cases hh : hol (f 274) u.2.2
        · with_reducible refine ok_ip ?_ ?_
          · rfl
          rw [if_neg (fun q => by simp at q)]
          exact next f1 he
        · with_reducible refine ok_in ?_ ?_
          · decide
          rw [if_pos ⟨hww, rfl⟩]
          exact ok_some ⟨rfl, f1, rfl, he⟩
      · have e0 : (if u.1 = w ∧ hol (f 274) u.2.2 = true then n32 r else fst (f 274) w (List.drop (r + 1) rs) (r + 1)) = fst (f 274) w (List.drop (r + 1) rs) (r + 1) := if_neg (fun q => hww q.1)
        rw [e0]
        with_reducible refine ok_ip (by first | assumption | omega | (simp (disch := omega) only [n32_of, neg_n32_1, n32_nat, n32_lt, n32_le, n32_eq, n32_add, n32_sub, n32_mul, n32_m1, m1_n32, n32_addm1, m1_lt, lt_m1, m1_le, le_m1, m1_add1, ofNat_n32, u2_self, u2_n, mk_I, mk_T, ne_eq, not_true_eq_false, not_false_eq_true, g1]; first | done | omega)) ?_
        simp (disch := omega) only [n32_of, neg_n32_1, n32_nat, n32_lt, n32_le, n32_eq, n32_add, n32_sub, n32_mul, n32_m1, m1_n32, n32_addm1, m1_lt, lt_m1, m1_le, le_m1, m1_add1, ofNat_n32, u2_self, u2_n, mk_I, mk_T, ]
        exact next f (fun _ _ _ => rfl)
theorem r_ruleF {N who l w : Nat} {σ : aSt} {rs : List Ru} {f : Nat → Nat → Int32} (hN : 10000 ≤ N) (hwho : who < 7) (hl : l < 2) (hlv : f 243 who = n32 l) (hok : okT rs) (hw : w < 3) (hX : RT f (2 * who + l) rs) : Ok (F_X12_ruleOf N (n32 who) (n32 w) (mk σ f)) (fun y σ' => y = fst (f 274) w rs 0 ∧ ∃ f', σ' = mk σ f' ∧ eqx f f' 275) := by
  unfold F_X12_ruleOf
  with_reducible refine ok_cO (by first | assumption | omega | (simp (disch := omega) only [n32_of, neg_n32_1, n32_nat, n32_lt, n32_le, n32_eq, n32_add, n32_sub, n32_mul, n32_m1, m1_n32, n32_addm1, m1_lt, lt_m1, m1_le, le_m1, m1_add1, ofNat_n32, u2_self, u2_n, mk_I, mk_T, ne_eq, not_true_eq_false, not_false_eq_true, ]; first | done | omega)) ?_
  simp (disch := omega) only [n32_of, neg_n32_1, n32_nat, n32_lt, n32_le, n32_eq, n32_add, n32_sub, n32_mul, n32_m1, m1_n32, n32_addm1, m1_lt, lt_m1, m1_le, le_m1, m1_add1, ofNat_n32, u2_self, u2_n, mk_I, mk_T, hlv]
  have := hok.1
  exact r_rule hN (by omega) hok hw N 0 f (by omega) (by omega) hX
theorem r_term {N who l r : Nat} {σ : aSt} {rs : List Ru} {u : Ru} {f : Nat → Nat → Int32} (hN : 10000 ≤ N) (hwho : who < 7) (hl : l < 2) (hlv : f 243 who = n32 l) (hok : okT rs) (hu : rs[r]? = some u) (hX : RT f (2 * who + l) rs) : Ok (F_X12_termOf N (n32 who) (n32 r) (mk σ f)) (fun y σ' => y = val (f 274) u.2.1 ∧ ∃ f', σ' = mk σ f' ∧ eqx f f' 275) := by
  obtain ⟨p, a, g1, g2, g3, g4, g5, g6, g7, g8, g9⟩ := hX.2 r u hu
  have hlen := hok.1
  have hr := (List.getElem?_eq_some_iff.mp hu).1
  have hku := hok.2 u (List.mem_of_getElem? hu)
  unfold F_X12_termOf
  with_reducible refine ok_cO (by first | assumption | omega | (simp (disch := omega) only [n32_of, neg_n32_1, n32_nat, n32_lt, n32_le, n32_eq, n32_add, n32_sub, n32_mul, n32_m1, m1_n32, n32_addm1, m1_lt, lt_m1, m1_le, le_m1, m1_add1, ofNat_n32, u2_self, u2_n, mk_I, mk_T, ne_eq, not_true_eq_false, not_false_eq_true, ]; first | done | omega)) ?_
  with_reducible refine ok_cO (by first | assumption | omega | (simp (disch := omega) only [n32_of, neg_n32_1, n32_nat, n32_lt, n32_le, n32_eq, n32_add, n32_sub, n32_mul, n32_m1, m1_n32, n32_addm1, m1_lt, lt_m1, m1_le, le_m1, m1_add1, ofNat_n32, u2_self, u2_n, mk_I, mk_T, ne_eq, not_true_eq_false, not_false_eq_true, hlv]; first | done | omega)) ?_
  with_reducible refine ok_cO (by first | assumption | omega | (simp (disch := omega) only [n32_of, neg_n32_1, n32_nat, n32_lt, n32_le, n32_eq, n32_add, n32_sub, n32_mul, n32_m1, m1_n32, n32_addm1, m1_lt, lt_m1, m1_le, le_m1, m1_add1, ofNat_n32, u2_self, u2_n, mk_I, mk_T, ne_eq, not_true_eq_false, not_false_eq_true, hlv]; first | done | omega)) ?_
  simp (disch := omega) only [n32_of, neg_n32_1, n32_nat, n32_lt, n32_le, n32_eq, n32_add, n32_sub, n32_mul, n32_m1, m1_n32, n32_addm1, m1_lt, lt_m1, m1_le, le_m1, m1_add1, ofNat_n32, u2_self, u2_n, mk_I, mk_T, hlv, g2, g3]
  refine ok_bind (r_value hN g4 g5 hku.2.1.1 hku.2.1.2) (fun y σ1 hq => ?_)
  exact ok_some hq
