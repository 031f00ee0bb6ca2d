/-! ===== the reference reads a rule ===== -/
def ruOK (b : Nat → Nat) (len pg : Nat) (O : Nat × Nat × List Ru) (km : Nat) (f : pln) : Prop := ∃ k C, km < k ∧ PI k 0 0 C [] [] ∧ (∀ j, j < k → tTk b len j ≠ 27) ∧ run (tTk b len) (tPl b len) (401 - k) k 0 0 C [] [] = O ∧ rG f k 0 ∧ rCo pg f (rCd C []) ∧ RQ pg f C 0 0
def ruQ (b : Nat → Nat) (len pg : Nat) (O : Nat × Nat × List Ru) (km : Nat) (σ : aSt) (f : pln) (σ' : aSt) : Prop := ∃ f', σ' = mk σ f' ∧ eqR pg f f' ∧ (RF O f' ∨ ruOK b len pg O km f')
theorem ruQ_tr {b : Nat → Nat} {len pg km km' : Nat} {O : Nat × Nat × List Ru} {σ : aSt} {f g : pln} {σ' : aSt} (e : eqR pg f g) (h : ruQ b len pg O km' σ g σ') (hk : km ≤ km') : ruQ b len pg O km σ f σ' := by
  obtain ⟨f', h1, h2, h3⟩ := h
  refine ⟨f', h1, eqR_tr e h2, ?_⟩
  rcases h3 with h3 | ⟨k, C, q, h3⟩
  · exact Or.inl h3
  · exact Or.inr ⟨k, C, by omega, h3⟩
section RRU
variable {N pg len : Nat} {b : Nat → Nat} {σ : aSt} {O : Nat × Nat × List Ru}
theorem r_mustF {f : pln} {K : Int32} (hF : RF O f) : F_X12_must N K (mk σ f) = some ((), mk σ f) := by
  unfold F_X12_must J_X12_must_20
  rw [r_isF hF.1 hF.2.1, oB_s, if_pos rfl, r_failF hF.1 hF.2.1, oB_s]
theorem r_211F {f : pln} {x1 : Int32} (hF : RF O f) : J_X12_tellRule_211 N x1 (mk σ f) = some ((), mk σ f) := by
  unfold J_X12_tellRule_211
  rw [r_mustF hF, oB_s, if_neg (RF_ne hF).1]
theorem r_211 {k pt : Nat} {C : CX} {c ws : List Nat} {u : Ru} {f : pln} (hpg : pg < 14) (hTR : TR b len f) (hP : PI k 2 pt C c ws) (hp : pt = 0 ∨ pt = 2) (ho : opn ws = 0) (hj : ∀ j, j < k → tTk b len j ≠ 27) (hrun : run (tTk b len) (tPl b len) (401 - k) k 2 pt C c ws = O) (hn : ¬ (17 ≤ tTk b len k ∧ tTk b len k ≤ 19)) (hn3 : pt = 0 → tTk b len k ≠ 3) (hn4 : pt = 2 → tTk b len k ≠ 4 ∧ tTk b len k ≠ 5) (hG : rG f k 0) (hC : rCo pg f (rCd C (c ++ ws))) (hE : cEnd pt C (c ++ ws) = cNew (xR C ++ [u]) 0) (hu : rCd C (c ++ ws) = frc (xR C ++ [u])) (hm : nrl (xR C) + u.2.2.length ≤ 200) (h244 : f 244 pg = n32 (xR C).length) (h250 : f 250 pg = n32 (nrl (xR C) + u.2.2.length)) (h19 : f 235 19 = n32 pg) (hRR : RRs pg f 0 (500 * pg) 0 (xR C)) (h245 : f 245 (20 * pg + (xR C).length) = n32 u.1) (h246 : f 246 (20 * pg + (xR C).length) = n32 (500 * pg + (frc (xR C)).length)) (h247 : f 247 (20 * pg + (xR C).length) = n32 (500 * pg + (frc (xR C)).length + u.2.1.length)) (h248 : f 248 (20 * pg + (xR C).length) = n32 (nrl (xR C))) (hRL : RLs f (200 * pg + nrl (xR C)) (500 * pg + (frc (xR C)).length + u.2.1.length) u.2.2) : Ok (J_X12_tellRule_211 N (n32 (20 * pg + (xR C).length)) (mk σ f)) (fun _ σ' => ruQ b len pg O k σ f σ') := by
  obtain ⟨b1, b2, b3, b4, b5, b6⟩ := PI_r hP (by omega)
  obtain ⟨x, x1, x2, x3, x4, x5, x6, x7, x8, x9, x10, x11, x12, x13, x14, x15, x16⟩ := r_tok hTR b3 hj
  obtain ⟨g11, g12, g13⟩ := hG
  have hl := (hP.2.1.2.1 (by omega)).2
  rw [show 401 - k = (401 - (k + 1)) + 1 by omega] at hrun
  unfold J_X12_tellRule_211 F_X12_must J_X12_must_20
  rw [show (4 : Int32) = n32 4 from rfl, r_is g13 g11 b3 x1 x4 (by omega)]
  refine ok_oB (ok_oB (ok_some ?_))
  by_cases h16 : tTk b len k = 16
  · refine ok_in (yz (x7.mpr h16)) ?_
    by_cases hk : k < 400
    · rw [r_next g11 hk]
      refine ok_oB (ok_some (ok_some ?_))
      refine ok_ip (by first | assumption | omega | (simp (disch := omega) only [n32_of, neg_n32_1, n32_nat, n32_lt, n32_le, n32_eq, n32_add, n32_sub, n32_mul, n32_m1, m1_n32, n32_addm1, m1_lt, lt_m1, m1_le, le_m1, m1_add1, ofNat_n32, u2_self, u2_n, mk_I, mk_T, ne_eq, not_true_eq_false, not_false_eq_true, g13]; first | done | omega)) ?_
      repeat (first | with_reducible refine ok_W ?_ | with_reducible refine ok_cO (by first | assumption | omega | (simp (disch := omega) only [n32_of, neg_n32_1, n32_nat, n32_lt, n32_le, n32_eq, n32_add, n32_sub, n32_mul, n32_m1, m1_n32, n32_addm1, m1_lt, lt_m1, m1_le, le_m1, m1_add1, ofNat_n32, u2_self, u2_n, mk_I, mk_T, ne_eq, not_true_eq_false, not_false_eq_true, h19, h250, h244]; first | done | omega)) ?_ | with_reducible refine ok_ip (by first | assumption | omega | (simp (disch := omega) only [n32_of, neg_n32_1, n32_nat, n32_lt, n32_le, n32_eq, n32_add, n32_sub, n32_mul, n32_m1, m1_n32, n32_addm1, m1_lt, lt_m1, m1_le, le_m1, m1_add1, ofNat_n32, u2_self, u2_n, mk_I, mk_T, ne_eq, not_true_eq_false, not_false_eq_true, h19, h250, h244]; first | done | omega)) ?_ | with_reducible refine ok_in (by first | assumption | omega | (simp (disch := omega) only [n32_of, neg_n32_1, n32_nat, n32_lt, n32_le, n32_eq, n32_add, n32_sub, n32_mul, n32_m1, m1_n32, n32_addm1, m1_lt, lt_m1, m1_le, le_m1, m1_add1, ofNat_n32, u2_self, u2_n, mk_I, mk_T, ne_eq, not_true_eq_false, not_false_eq_true, h19, h250, h244]; first | done | omega)) ?_)
      simp (disch := omega) only [n32_of, neg_n32_1, n32_nat, n32_lt, n32_le, n32_eq, n32_add, n32_sub, n32_mul, n32_m1, m1_n32, n32_addm1, m1_lt, lt_m1, m1_le, le_m1, m1_add1, ofNat_n32, u2_self, u2_n, mk_I, mk_T, h19, h250, h244]
      rw [run_semi h16 hp ho hk] at hrun
      have P2 := PI_semi hP hp hk ho
      rw [hE] at hrun P2
      refine ok_some ⟨_, rfl, fun a j q1 q2 q3 q4 q5 q6 => ?_, Or.inr ⟨k + 1, cNew (xR C ++ [u]) 0, by omega, P2, fun j hj' => ?_, hrun, ⟨?_, ?_, ?_⟩, ⟨?_, ?_⟩, ⟨⟨?_, ?_, ?_⟩, RRs_app _ _ _ _ (RRs_cg _ _ _ _ hRR (fun a j q1 q2 q3 q4 => ?_) (fun a j q1 q2 q3 q4 => ?_)) ⟨⟨?_, ?_, ?_, ?_, ?_⟩, RLs_cg (f := f) _ _ _ ?_ (fun a j q1 q2 q3 q4 => ?_), trivial⟩, fun q => absurd rfl q, fun q => absurd rfl q⟩⟩⟩
      · simp (disch := omega) only [n32_of, neg_n32_1, n32_nat, n32_lt, n32_le, n32_eq, n32_add, n32_sub, n32_mul, n32_m1, m1_n32, n32_addm1, m1_lt, lt_m1, m1_le, le_m1, m1_add1, ofNat_n32, u2_self, u2_n, mk_I, mk_T, ]
      · by_cases ej : j = k
        · rw [ej]; omega
        · exact hj j (by omega)
      · simp (disch := omega) only [n32_of, neg_n32_1, n32_nat, n32_lt, n32_le, n32_eq, n32_add, n32_sub, n32_mul, n32_m1, m1_n32, n32_addm1, m1_lt, lt_m1, m1_le, le_m1, m1_add1, ofNat_n32, u2_self, u2_n, mk_I, mk_T, ]
      · simp (disch := omega) only [n32_of, neg_n32_1, n32_nat, n32_lt, n32_le, n32_eq, n32_add, n32_sub, n32_mul, n32_m1, m1_n32, n32_addm1, m1_lt, lt_m1, m1_le, le_m1, m1_add1, ofNat_n32, u2_self, u2_n, mk_I, mk_T, ]
        exact g12
      · simp (disch := omega) only [n32_of, neg_n32_1, n32_nat, n32_lt, n32_le, n32_eq, n32_add, n32_sub, n32_mul, n32_m1, m1_n32, n32_addm1, m1_lt, lt_m1, m1_le, le_m1, m1_add1, ofNat_n32, u2_self, u2_n, mk_I, mk_T, ]
        exact g13
      · have e : rCd (cNew (xR C ++ [u]) 0) [] = rCd C (c ++ ws) := by
          rw [hu]
          show frc (xR C ++ [u]) ++ ([] ++ ([] ++ ([] ++ []))) = _
          simp
        rw [e]
        simp (disch := omega) only [n32_of, neg_n32_1, n32_nat, n32_lt, n32_le, n32_eq, n32_add, n32_sub, n32_mul, n32_m1, m1_n32, n32_addm1, m1_lt, lt_m1, m1_le, le_m1, m1_add1, ofNat_n32, u2_self, u2_n, mk_I, mk_T, ]
        exact hC.1
      · have e : rCd (cNew (xR C ++ [u]) 0) [] = rCd C (c ++ ws) := by
          rw [hu]
          show frc (xR C ++ [u]) ++ ([] ++ ([] ++ ([] ++ []))) = _
          simp
        rw [e]
        exact segR_cg hC.2 (fun j => by simp (disch := omega) only [n32_of, neg_n32_1, n32_nat, n32_lt, n32_le, n32_eq, n32_add, n32_sub, n32_mul, n32_m1, m1_n32, n32_addm1, m1_lt, lt_m1, m1_le, le_m1, m1_add1, ofNat_n32, u2_self, u2_n, mk_I, mk_T, ]) (fun j => by simp (disch := omega) only [n32_of, neg_n32_1, n32_nat, n32_lt, n32_le, n32_eq, n32_add, n32_sub, n32_mul, n32_m1, m1_n32, n32_addm1, m1_lt, lt_m1, m1_le, le_m1, m1_add1, ofNat_n32, u2_self, u2_n, mk_I, mk_T, ])
      · show _ = n32 (xR C ++ [u]).length
        rw [List.length_append, List.length_singleton]
        simp (disch := omega) only [n32_of, neg_n32_1, n32_nat, n32_lt, n32_le, n32_eq, n32_add, n32_sub, n32_mul, n32_m1, m1_n32, n32_addm1, m1_lt, lt_m1, m1_le, le_m1, m1_add1, ofNat_n32, u2_self, u2_n, mk_I, mk_T, ]
      · show _ = n32 (nrl (xR C ++ [u]) + 0)
        rw [nrl_app]
        simp (disch := omega) only [n32_of, neg_n32_1, n32_nat, n32_lt, n32_le, n32_eq, n32_add, n32_sub, n32_mul, n32_m1, m1_n32, n32_addm1, m1_lt, lt_m1, m1_le, le_m1, m1_add1, ofNat_n32, u2_self, u2_n, mk_I, mk_T, ]
        exact h250
      · simp (disch := omega) only [n32_of, neg_n32_1, n32_nat, n32_lt, n32_le, n32_eq, n32_add, n32_sub, n32_mul, n32_m1, m1_n32, n32_addm1, m1_lt, lt_m1, m1_le, le_m1, m1_add1, ofNat_n32, u2_self, u2_n, mk_I, mk_T, ]
        exact h19
      · simp (disch := omega) only [n32_of, neg_n32_1, n32_nat, n32_lt, n32_le, n32_eq, n32_add, n32_sub, n32_mul, n32_m1, m1_n32, n32_addm1, m1_lt, lt_m1, m1_le, le_m1, m1_add1, ofNat_n32, u2_self, u2_n, mk_I, mk_T, ]
      · simp (disch := omega) only [n32_of, neg_n32_1, n32_nat, n32_lt, n32_le, n32_eq, n32_add, n32_sub, n32_mul, n32_m1, m1_n32, n32_addm1, m1_lt, lt_m1, m1_le, le_m1, m1_add1, ofNat_n32, u2_self, u2_n, mk_I, mk_T, ]
      · rw [Nat.zero_add]
        simp (disch := omega) only [n32_of, neg_n32_1, n32_nat, n32_lt, n32_le, n32_eq, n32_add, n32_sub, n32_mul, n32_m1, m1_n32, n32_addm1, m1_lt, lt_m1, m1_le, le_m1, m1_add1, ofNat_n32, u2_self, u2_n, mk_I, mk_T, ]
        exact h245
      · rw [Nat.zero_add]
        simp (disch := omega) only [n32_of, neg_n32_1, n32_nat, n32_lt, n32_le, n32_eq, n32_add, n32_sub, n32_mul, n32_m1, m1_n32, n32_addm1, m1_lt, lt_m1, m1_le, le_m1, m1_add1, ofNat_n32, u2_self, u2_n, mk_I, mk_T, ]
        exact h246
      · rw [Nat.zero_add]
        simp (disch := omega) only [n32_of, neg_n32_1, n32_nat, n32_lt, n32_le, n32_eq, n32_add, n32_sub, n32_mul, n32_m1, m1_n32, n32_addm1, m1_lt, lt_m1, m1_le, le_m1, m1_add1, ofNat_n32, u2_self, u2_n, mk_I, mk_T, ]
        exact h247
      · rw [Nat.zero_add, Nat.zero_add]
        simp (disch := omega) only [n32_of, neg_n32_1, n32_nat, n32_lt, n32_le, n32_eq, n32_add, n32_sub, n32_mul, n32_m1, m1_n32, n32_addm1, m1_lt, lt_m1, m1_le, le_m1, m1_add1, ofNat_n32, u2_self, u2_n, mk_I, mk_T, ]
        exact h248
      · rw [Nat.zero_add, Nat.zero_add]
        simp (disch := omega) only [n32_of, neg_n32_1, n32_nat, n32_lt, n32_le, n32_eq, n32_add, n32_sub, n32_mul, n32_m1, m1_n32, n32_addm1, m1_lt, lt_m1, m1_le, le_m1, m1_add1, ofNat_n32, u2_self, u2_n, mk_I, mk_T, ]
      · rw [Nat.zero_add]
        exact hRL
      · simp (disch := omega) only [n32_of, neg_n32_1, n32_nat, n32_lt, n32_le, n32_eq, n32_add, n32_sub, n32_mul, n32_m1, m1_n32, n32_addm1, m1_lt, lt_m1, m1_le, le_m1, m1_add1, ofNat_n32, u2_self, u2_n, mk_I, mk_T, ]
    · have ek : k = 400 := by omega
      subst ek
      rw [r_next4 g13 g11]
      refine ok_oB (ok_some (ok_some ?_))
      rw [run_room (by omega) (by omega) (by omega)] at hrun
      have hF := RF_2 (O := O) x2 (Or.inr rfl) hrun.symm
      refine ok_in (RF_ne hF).1 ?_
      exact ok_some ⟨_, rfl, eqR_E eqE_f, Or.inl hF⟩
  · refine ok_ip (nz (by omega)) ?_
    have hbad : ¬ fit 2 pt (opn ws) (tTk b len k) := by
      rcases hp with rfl | rfl
      · have := hn3 rfl
        omega
      · have := hn4 rfl
        omega
    rw [run_bad hbad] at hrun
    rw [show (1 : Int32) = n32 1 from rfl, r_fail g13 g11 b3]
    refine ok_oB (ok_some (ok_some ?_))
    have hF := RF_2 (O := O) x2 (Or.inl rfl) hrun.symm
    refine ok_in (RF_ne hF).1 ?_
    exact ok_some ⟨_, rfl, eqR_E eqE_f, Or.inl hF⟩
theorem r_158F {f : pln} {n : Nat} {x1 x2 x3 : Int32} (hF : RF O f) : H_X12_tellRule_158 N (n + 1) x1 x2 x3 (mk σ f) = some ((), mk σ f) := by
  rw [H_X12_tellRule_158]
  by_cases h : x2 = 0
  · rw [if_pos h]; exact r_211F hF
  · rw [if_neg h, if_pos (RF_ne hF).2]; exact r_211F hF
theorem r_158 (hN : 1000 ≤ N) (hpg : pg < 14) : ∀ (n k : Nat) (C : CX) (f : pln), 402 - k ≤ n → TR b len f → PI k 1 1 C [] [] → (∀ j, j < k → tTk b len j ≠ 27) → run (tTk b len) (tPl b len) (401 - k) k 1 1 C [] [] = O → rG f k 0 → rCo pg f (rCd C []) → RQ pg f C 1 1 → Ok (H_X12_tellRule_158 N n (n32 (20 * pg + (xR C).length)) (n32 1) (bB (xO C)) (mk σ f)) (fun _ σ' => ruQ b len pg O k σ f σ') := by
  intro n
  induction n with
  | zero => intro k C f hn hTR hP; have := hP.1; omega
  | succ n ih =>
    intro k C f hn hTR hP hj hrun hG hC hQ
    have hk4 := hP.1
    obtain ⟨n, rfl⟩ : ∃ n', n = n' + 1 := ⟨n - 1, by omega⟩
    rw [H_X12_tellRule_158]
    refine ok_in (by decide) ?_
    refine ok_in (by have := hG.2.2; first | assumption | omega | (simp (disch := omega) only [n32_of, neg_n32_1, n32_nat, n32_lt, n32_le, n32_eq, n32_add, n32_sub, n32_mul, n32_m1, m1_n32, n32_addm1, m1_lt, lt_m1, m1_le, le_m1, m1_add1, ofNat_n32, u2_self, u2_n, mk_I, mk_T, ne_eq, not_true_eq_false, not_false_eq_true, this]; first | done | omega)) ?_
    refine ok_oB (ok_mono (r_rel hN hpg hTR hP hj hrun hG hC hQ) (fun u σ' hq => ?_))
    obtain ⟨f1, rfl, e1, hq⟩ := hq
    rcases hq with hF | ⟨k1, C1, c, ws, eR, lk, P1, o1, j1, run1, n1, hG1, hC1, hQ1⟩
    · rw [r_isF hF.1 hF.2.1]
      refine ok_oB (ok_some ?_)
      refine ok_in (fun q => q rfl) ?_
      rw [r_isF hF.1 hF.2.1]
      refine ok_oB (ok_some ?_)
      refine ok_ip rfl ?_
      unfold J_X12_tellRule_199
      refine ok_ip rfl ?_
      rw [r_158F hF]
      exact ok_some ⟨f1, rfl, e1, Or.inl hF⟩
    · obtain ⟨b1, b2, b3, b4, b5, b6⟩ := PI_r P1 (by omega)
      obtain ⟨x, x1, x2, x3, x4, x5, x6, x7, x8, x9, x10, x11, x12, x13, x14, x15, x16⟩ := r_tok (TR_R hTR e1) b3 j1
      obtain ⟨g11, g12, g13⟩ := hG1
      rw [show (24 : Int32) = n32 24 from rfl, r_is g13 g11 b3 x1 x4 (by omega)]
      refine ok_oB (ok_some ?_)
      have con : ∀ y : Int32, (tTk b len k1 = 4 ∨ tTk b len k1 = 5) → y = bB (decide (tTk b len k1 = 4)) → Ok (J_X12_tellRule_194 N (H_X12_tellRule_158 N (n + 1)) (n32 (20 * pg + (xR C).length)) y (mk σ f1)) (fun _ σ' => ruQ b len pg O k σ f σ') := by
        intro y h45 hy
        unfold J_X12_tellRule_194 J_X12_tellRule_199
        refine ok_in (by decide) ?_
        rw [show 401 - k1 = (401 - (k1 + 1)) + 1 by omega] at run1
        by_cases hk : k1 < 400
        · rw [r_next g11 hk]
          refine ok_oB (ok_some ?_)
          rw [run_con h45 o1 hk] at run1
          have e2 : eqE pg f1 (u2 f1 235 11 (n32 (k1 + 1))) := eqE_u (by omega)
          have hQ2 : RQ pg f1 (cCon C1 (c ++ ws) (decide (tTk b len k1 = 4))) 1 1 := hQ1
          have := ih (k1 + 1) (cCon C1 (c ++ ws) (decide (tTk b len k1 = 4))) (u2 f1 235 11 (n32 (k1 + 1))) (by omega) (TR_E (TR_R hTR e1) e2) (PI_con P1 hk o1) (fun j hj' => by
            by_cases ej : j = k1
            · rw [ej]; omega
            · exact j1 j (by omega)) run1 ⟨u2_self, (u2_n (by omega)).trans g12, (u2_n (by omega)).trans g13⟩ ⟨by rw [rCd_con]; exact (u2_n (by omega)).trans hC1.1, by rw [rCd_con]; exact segR_cg hC1.2 (fun j => u2_n (by omega)) (fun j => u2_n (by omega))⟩ (RQ_E hQ2 e2)
          rw [show (xR (cCon C1 (c ++ ws) (decide (tTk b len k1 = 4)))).length = (xR C).length from congrArg List.length eR] at this
          rw [hy]
          exact ok_mono this (fun u σ' hq => ruQ_tr (eqR_tr e1 (eqR_E e2)) hq (by omega))
        · have ek : k1 = 400 := by omega
          subst ek
          rw [r_next4 g13 g11]
          refine ok_oB (ok_some ?_)
          rw [run_room (by omega) (by omega) (by omega)] at run1
          have hF := RF_2 (O := O) x2 (Or.inr rfl) run1.symm
          rw [r_158F hF]
          exact ok_some ⟨_, rfl, eqR_tr e1 (eqR_E eqE_f), Or.inl hF⟩
      by_cases h4 : tTk b len k1 = 4
      · refine ok_ip (yz (by omega)) ?_
        refine con _ (Or.inl h4) ?_
        rw [bI_t (by omega), decide_eq_true h4]
        rfl
      · refine ok_in (fun q => q (nz (by omega))) ?_
        rw [show (25 : Int32) = n32 25 from rfl, r_is g13 g11 b3 x1 x4 (by omega)]
        refine ok_oB (ok_some ?_)
        have e24 : bI (x = 24) = bB (decide (tTk b len k1 = 4)) := by
          rw [bI_f (by omega), decide_eq_false h4]
          rfl
        by_cases h5 : tTk b len k1 = 5
        · refine ok_in (yz (by omega)) ?_
          exact con _ (Or.inr h5) e24
        · refine ok_ip (nz (by omega)) ?_
          unfold J_X12_tellRule_199
          refine ok_ip rfl ?_
          rw [H_X12_tellRule_158]
          refine ok_ip rfl ?_
          obtain ⟨⟨r1, r2, r3⟩, r4, r5, r6⟩ := hQ1
          obtain ⟨r7, r8, r9⟩ := r6 (by omega)
          obtain ⟨r10, r11⟩ := r5 (by omega)
          have hu : rCd C1 (c ++ ws) = frc (xR C1 ++ [(xW C1, xV C1, finR C1 (c ++ ws))]) := by
            rw [frc_app]
            show frc (xR C1) ++ (xV C1 ++ (frl (xL C1) ++ (xE C1 ++ (c ++ ws)))) = frc (xR C1) ++ (xV C1 ++ (frl (finR C1 (c ++ ws)) ++ []))
            unfold finR
            rw [frl_app]
            simp [frl]
          have tl1 := nrl_le (xR C1)
          have tl2 := wl2_len (xL C1)
          have tot2 := P1.2.2.2.2
          have eT : tot 2 C1 c ws = wtr (xR C1) + (xV C1).length + wl2 (xL C1) + 2 + (xE C1).length + c.length + ws.length := rfl
          have hm : nrl (xR C1) + (finR C1 (c ++ ws)).length ≤ 200 := by
            unfold finR
            rw [List.length_append, List.length_singleton]
            omega
          have := r_211 (N := N) (σ := σ) (u := (xW C1, xV C1, finR C1 (c ++ ws))) hpg (TR_R hTR e1) P1 (Or.inr rfl) o1 j1 run1 n1 (fun q => by omega) (fun _ => ⟨h4, h5⟩) ⟨g11, g12, g13⟩ hC1 rfl hu hm r1 r2 r3 r4 r10 r11 r7 r8 r9
          rw [show (xR C1).length = (xR C).length from congrArg List.length eR] at this
          exact ok_mono this (fun u σ' hq => ruQ_tr e1 hq (by omega))
/-- a rule behind its first E, and behind its word -/
def trB (N : Nat) (x1 : Int32) (σ59 : aSt) : Option (Unit × aSt) := cO (¬ (x1 < 0 ∨ 280 ≤ x1.toNatClampNeg)) (lt (aWI σ59 247 x1.toNatClampNeg (aI σ59 235 32)) fun σ64 => cO (¬ ((aI σ64 235 19) < 0 ∨ 14 ≤ (aI σ64 235 19).toNatClampNeg)) (cO (¬ (x1 < 0 ∨ 280 ≤ x1.toNatClampNeg)) (lt (aWI σ64 248 x1.toNatClampNeg (aI σ64 250 (aI σ64 235 19).toNatClampNeg)) fun σ69 => oB (F_X12_is N 23 σ69) fun y72 σ73 => if y72 = 0 then J_X12_tellRule_156 N x1 y72 σ73 else oB (F_X12_next N σ73) fun _ σ79 => J_X12_tellRule_156 N x1 y72 σ79)))
def trA (N : Nat) (x1 : Int32) (σ50 : aSt) : Option (Unit × aSt) := cO (¬ (x1 < 0 ∨ 280 ≤ x1.toNatClampNeg)) (lt (aWI σ50 246 x1.toNatClampNeg (aI σ50 235 32)) fun σ55 => oB (F_X12_expression N σ55) fun _ σ59 => trB N x1 σ59)
theorem J54_eq (σ : aSt) : J_X12_tellRule_54 N σ = if (aI σ 235 13) ≤ 0 then cO (¬ ((aI σ 235 19) < 0 ∨ 14 ≤ (aI σ 235 19).toNatClampNeg)) (cO (¬ ((aI σ 235 11) < 0 ∨ 403 ≤ (aI σ 235 11).toNatClampNeg)) (cO (¬ (((20 * (aI σ 235 19)) + (aI σ 244 (aI σ 235 19).toNatClampNeg)) < 0 ∨ 280 ≤ ((20 * (aI σ 235 19)) + (aI σ 244 (aI σ 235 19).toNatClampNeg)).toNatClampNeg)) (lt (aWI σ 245 ((20 * (aI σ 235 19)) + (aI σ 244 (aI σ 235 19).toNatClampNeg)).toNatClampNeg ((aI σ 238 (aI σ 235 11).toNatClampNeg) - 20)) fun σ46 => oB (F_X12_next N σ46) fun _ σ50 => trA N ((20 * (aI σ 235 19)) + (aI σ 244 (aI σ 235 19).toNatClampNeg)) σ50))) else some ((), σ) := rfl
theorem r_trBF {f : pln} {r : Nat} (hN : 1000 ≤ N) (hpg : pg < 14) (hr : r < 20) (hF : RF O f) (h19 : f 235 19 = n32 pg) : Ok (trB N (n32 (20 * pg + r)) (mk σ f)) (fun _ σ' => ∃ f', σ' = mk σ f' ∧ eqR pg f f' ∧ RF O f') := by
  obtain ⟨N', rfl⟩ : ∃ N', N = N' + 1 := ⟨N - 1, by omega⟩
  unfold trB
  repeat (first | with_reducible refine ok_W ?_ | with_reducible refine ok_cO (by first | assumption | omega | (simp (disch := omega) only [n32_of, neg_n32_1, n32_nat, n32_lt, n32_le, n32_eq, n32_add, n32_sub, n32_mul, n32_m1, m1_n32, n32_addm1, m1_lt, lt_m1, m1_le, le_m1, m1_add1, ofNat_n32, u2_self, u2_n, mk_I, mk_T, ne_eq, not_true_eq_false, not_false_eq_true, h19]; first | done | omega)) ?_ | with_reducible refine ok_ip (by first | assumption | omega | (simp (disch := omega) only [n32_of, neg_n32_1, n32_nat, n32_lt, n32_le, n32_eq, n32_add, n32_sub, n32_mul, n32_m1, m1_n32, n32_addm1, m1_lt, lt_m1, m1_le, le_m1, m1_add1, ofNat_n32, u2_self, u2_n, mk_I, mk_T, ne_eq, not_true_eq_false, not_false_eq_true, h19]; first | done | omega)) ?_ | with_reducible refine ok_in (by first | assumption | omega | (simp (disch := omega) only [n32_of, neg_n32_1, n32_nat, n32_lt, n32_le, n32_eq, n32_add, n32_sub, n32_mul, n32_m1, m1_n32, n32_addm1, m1_lt, lt_m1, m1_le, le_m1, m1_add1, ofNat_n32, u2_self, u2_n, mk_I, mk_T, ne_eq, not_true_eq_false, not_false_eq_true, h19]; first | done | omega)) ?_)
  simp (disch := omega) only [n32_of, neg_n32_1, n32_nat, n32_lt, n32_le, n32_eq, n32_add, n32_sub, n32_mul, n32_m1, m1_n32, n32_addm1, m1_lt, lt_m1, m1_le, le_m1, m1_add1, ofNat_n32, u2_self, u2_n, mk_I, mk_T, h19]
  have hF2 : RF O (u2 (u2 f 247 (20 * pg + r) (f 235 32)) 248 (20 * pg + r) (f 250 pg)) := RF_E hF (by rw [u2_n (by omega), u2_n (by omega)]) (by rw [u2_n (by omega), u2_n (by omega)])
  rw [r_isF hF2.1 hF2.2.1]
  refine ok_oB (ok_some ?_)
  refine ok_ip rfl ?_
  unfold J_X12_tellRule_156
  rw [r_158F hF2]
  exact ok_some ⟨_, rfl, fun a j q1 q2 q3 q4 q5 q6 => by rw [u2_n (by omega), u2_n (by omega)], hF2⟩
theorem r_trAF {f : pln} {r : Nat} (hN : 1000 ≤ N) (hpg : pg < 14) (hr : r < 20) (hF : RF O f) (h19 : f 235 19 = n32 pg) : Ok (trA N (n32 (20 * pg + r)) (mk σ f)) (fun _ σ' => ∃ f', σ' = mk σ f' ∧ eqR pg f f' ∧ RF O f') := by
  unfold trA
  repeat (first | with_reducible refine ok_W ?_ | with_reducible refine ok_cO (by first | assumption | omega | (simp (disch := omega) only [n32_of, neg_n32_1, n32_nat, n32_lt, n32_le, n32_eq, n32_add, n32_sub, n32_mul, n32_m1, m1_n32, n32_addm1, m1_lt, lt_m1, m1_le, le_m1, m1_add1, ofNat_n32, u2_self, u2_n, mk_I, mk_T, ne_eq, not_true_eq_false, not_false_eq_true, ]; first | done | omega)) ?_ | with_reducible refine ok_ip (by first | assumption | omega | (simp (disch := omega) only [n32_of, neg_n32_1, n32_nat, n32_lt, n32_le, n32_eq, n32_add, n32_sub, n32_mul, n32_m1, m1_n32, n32_addm1, m1_lt, lt_m1, m1_le, le_m1, m1_add1, ofNat_n32, u2_self, u2_n, mk_I, mk_T, ne_eq, not_true_eq_false, not_false_eq_true, ]; first | done | omega)) ?_ | with_reducible refine ok_in (by first | assumption | omega | (simp (disch := omega) only [n32_of, neg_n32_1, n32_nat, n32_lt, n32_le, n32_eq, n32_add, n32_sub, n32_mul, n32_m1, m1_n32, n32_addm1, m1_lt, lt_m1, m1_le, le_m1, m1_add1, ofNat_n32, u2_self, u2_n, mk_I, mk_T, ne_eq, not_true_eq_false, not_false_eq_true, ]; first | done | omega)) ?_)
  simp (disch := omega) only [n32_of, neg_n32_1, n32_nat, n32_lt, n32_le, n32_eq, n32_add, n32_sub, n32_mul, n32_m1, m1_n32, n32_addm1, m1_lt, lt_m1, m1_le, le_m1, m1_add1, ofNat_n32, u2_self, u2_n, mk_I, mk_T, ]
  have hF2 : RF O (u2 f 246 (20 * pg + r) (f 235 32)) := RF_E hF (u2_n (by omega)) (u2_n (by omega))
  refine ok_oB (ok_mono (r_exprF (pg := pg) hN hF2) (fun u σ' hq => ?_))
  obtain ⟨f1, rfl, e1, hF3⟩ := hq
  refine ok_mono (r_trBF hN hpg hr hF3 ((e1 _ _ (by omega) (by omega) (by omega)).trans ((u2_n (by omega)).trans h19))) (fun u σ' hq => ?_)
  obtain ⟨f2, q1, q2, q3⟩ := hq
  exact ⟨f2, q1, fun a j q1 q2' q3 q4 q5 q6 => by rw [q2 a j q1 q2' q3 q4 q5 q6, e1 a j q1 q2' q3, u2_n (by omega)], q3⟩
theorem r_tell {k : Nat} {C : CX} {f : pln} (hN : 1000 ≤ N) (hpg : pg < 14) (hTR : TR b len f) (hP : PI k 0 0 C [] []) (hj : ∀ j, j < k → tTk b len j ≠ 27) (hrun : run (tTk b len) (tPl b len) (401 - k) k 0 0 C [] [] = O) (h27 : tTk b len k ≠ 27) (hG : rG f k 0) (hC : rCo pg f (rCd C [])) (hQ : RQ pg f C 0 0) : Ok (F_X12_tellRule N (mk σ f)) (fun _ σ' => ruQ b len pg O k σ f σ') := by
  have b3 := hP.1
  obtain ⟨x, x1, x2, x3, x4, x5, x6, x7, x8, x9, x10, x11, x12, x13, x14, x15, x16⟩ := r_tok hTR b3 hj
  obtain ⟨g11, g12, g13⟩ := hG
  rw [show 401 - k = (401 - (k + 1)) + 1 by omega] at hrun
  obtain ⟨⟨r1, r2, r3⟩, r4, r5, r6⟩ := hQ
  have hR20 := hP.2.1.1.2.2.1
  obtain ⟨v0, l0⟩ := hP.2.1.2.2.2.1 rfl
  have e0 := hP.2.1.2.2.2.2.1 (by omega)
  have eCd : rCd C [] = frc (xR C) := by
    unfold rCd
    rw [v0, l0, e0]
    simp [frl]
  rw [eCd] at hC
  rw [l0] at r2
  have r2 : f 250 pg = n32 (nrl (xR C)) := r2
  have tl1 := nrl_le (xR C)
  have tl3 := frc_len (xR C)
  have tot0 := hP.2.2.2.2
  have eT : tot 0 C [] [] = wtr (xR C) + (xV C).length + wl2 (xL C) + 0 + (xE C).length + 0 + 0 := rfl
  -- a fault ahead of the rule
  have flt : ∀ q, (q = 1 ∨ q = 2) → O = (q, tPl b len k, []) → Ok (J_X12_tellRule_54 N (mk σ (u2 (u2 f 235 13 (n32 q)) 235 14 (f 239 k)))) (fun _ σ' => ruQ b len pg O k σ f σ') := by
    intro q hq hO
    have hF := RF_2 (O := O) x2 hq hO
    rw [J54_eq]
    refine ok_in (RF_ne hF).1 ?_
    exact ok_some ⟨_, rfl, eqR_E eqE_f, Or.inl hF⟩
  have good : tTk b len k ≤ 2 → Ok (J_X12_tellRule_35 N (mk σ f)) (fun _ σ' => ruQ b len pg O k σ f σ') := by
    intro h2
    unfold J_X12_tellRule_35
    with_reducible refine ok_cO (by first | assumption | omega | (simp (disch := omega) only [n32_of, neg_n32_1, n32_nat, n32_lt, n32_le, n32_eq, n32_add, n32_sub, n32_mul, n32_m1, m1_n32, n32_addm1, m1_lt, lt_m1, m1_le, le_m1, m1_add1, ofNat_n32, u2_self, u2_n, mk_I, mk_T, ne_eq, not_true_eq_false, not_false_eq_true, r3]; first | done | omega)) ?_
    have e244 : aI (mk σ f) 244 (aI (mk σ f) 235 19).toNatClampNeg = n32 (xR C).length := by
      rw [mk_I, r3, n32_nat (by omega)]
      exact r1
    rw [e244]
    by_cases hl : (xR C).length = 20
    · with_reducible refine ok_in (by first | assumption | omega | (simp (disch := omega) only [n32_of, neg_n32_1, n32_nat, n32_lt, n32_le, n32_eq, n32_add, n32_sub, n32_mul, n32_m1, m1_n32, n32_addm1, m1_lt, lt_m1, m1_le, le_m1, m1_add1, ofNat_n32, u2_self, u2_n, mk_I, mk_T, ne_eq, not_true_eq_false, not_false_eq_true, hl]; first | done | omega)) ?_
      rw [run_room (Or.inl ⟨rfl, Or.inl h2⟩) h27 (fun q => by have := q.2.1 rfl; omega)] at hrun
      rw [show (2 : Int32) = n32 2 from rfl, r_fail g13 g11 b3]
      exact ok_oB (ok_some (flt 2 (Or.inr rfl) hrun.symm))
    · have hl' : (xR C).length < 20 := by omega
      with_reducible refine ok_ip (by first | assumption | omega | (simp (disch := omega) only [n32_of, neg_n32_1, n32_nat, n32_lt, n32_le, n32_eq, n32_add, n32_sub, n32_mul, n32_m1, m1_n32, n32_addm1, m1_lt, lt_m1, m1_le, le_m1, m1_add1, ofNat_n32, u2_self, u2_n, mk_I, mk_T, ne_eq, not_true_eq_false, not_false_eq_true, ]; first | done | omega)) ?_
      rw [J54_eq]
      with_reducible refine ok_ip (by first | assumption | omega | (simp (disch := omega) only [n32_of, neg_n32_1, n32_nat, n32_lt, n32_le, n32_eq, n32_add, n32_sub, n32_mul, n32_m1, m1_n32, n32_addm1, m1_lt, lt_m1, m1_le, le_m1, m1_add1, ofNat_n32, u2_self, u2_n, mk_I, mk_T, ne_eq, not_true_eq_false, not_false_eq_true, g13]; first | done | omega)) ?_
      have er : (20 * (aI (mk σ f) 235 19)) + (aI (mk σ f) 244 (aI (mk σ f) 235 19).toNatClampNeg) = n32 (20 * pg + (xR C).length) := by
        rw [e244, mk_I, r3, show (20 : Int32) = n32 20 from rfl, n32_mul, n32_add]
      have ex : aI (mk σ f) 238 (aI (mk σ f) 235 11).toNatClampNeg - 20 = n32 (tTk b len k) := by
        rw [mk_I, g11, n32_nat (by omega), x1, x14 (by omega), show (20 : Int32) = n32 20 from rfl, n32_sub (by omega), Nat.add_sub_cancel_left]
      rw [er, ex]
      repeat (first | with_reducible refine ok_W ?_ | with_reducible refine ok_cO (by first | assumption | omega | (simp (disch := omega) only [n32_of, neg_n32_1, n32_nat, n32_lt, n32_le, n32_eq, n32_add, n32_sub, n32_mul, n32_m1, m1_n32, n32_addm1, m1_lt, lt_m1, m1_le, le_m1, m1_add1, ofNat_n32, u2_self, u2_n, mk_I, mk_T, ne_eq, not_true_eq_false, not_false_eq_true, r3, g11]; first | done | omega)) ?_ | with_reducible refine ok_ip (by first | assumption | omega | (simp (disch := omega) only [n32_of, neg_n32_1, n32_nat, n32_lt, n32_le, n32_eq, n32_add, n32_sub, n32_mul, n32_m1, m1_n32, n32_addm1, m1_lt, lt_m1, m1_le, le_m1, m1_add1, ofNat_n32, u2_self, u2_n, mk_I, mk_T, ne_eq, not_true_eq_false, not_false_eq_true, r3, g11]; first | done | omega)) ?_ | with_reducible refine ok_in (by first | assumption | omega | (simp (disch := omega) only [n32_of, neg_n32_1, n32_nat, n32_lt, n32_le, n32_eq, n32_add, n32_sub, n32_mul, n32_m1, m1_n32, n32_addm1, m1_lt, lt_m1, m1_le, le_m1, m1_add1, ofNat_n32, u2_self, u2_n, mk_I, mk_T, ne_eq, not_true_eq_false, not_false_eq_true, r3, g11]; first | done | omega)) ?_)
      simp (disch := omega) only [n32_of, neg_n32_1, n32_nat, n32_lt, n32_le, n32_eq, n32_add, n32_sub, n32_mul, n32_m1, m1_n32, n32_addm1, m1_lt, lt_m1, m1_le, le_m1, m1_add1, ofNat_n32, u2_self, u2_n, mk_I, mk_T, ]
      have k11 : u2 f 245 (20 * pg + (xR C).length) (n32 (tTk b len k)) 235 11 = n32 k := (u2_n (by omega)).trans g11
      have k12 : u2 f 245 (20 * pg + (xR C).length) (n32 (tTk b len k)) 235 12 = n32 0 := (u2_n (by omega)).trans g12
      have k13 : u2 f 245 (20 * pg + (xR C).length) (n32 (tTk b len k)) 235 13 = n32 0 := (u2_n (by omega)).trans g13
      have k19 : u2 f 245 (20 * pg + (xR C).length) (n32 (tTk b len k)) 235 19 = n32 pg := (u2_n (by omega)).trans r3
      have k239 : u2 f 245 (20 * pg + (xR C).length) (n32 (tTk b len k)) 239 k = n32 (tPl b len k) := (u2_n (by omega)).trans x2
      have ea : eqR pg f (u2 f 245 (20 * pg + (xR C).length) (n32 (tTk b len k))) := fun a j q1 q2 q3 q4 q5 q6 => u2_n (by omega)
      by_cases hk : k < 400
      · rw [r_next k11 hk]
        refine ok_oB (ok_some ?_)
        rw [run_rule (Or.inl ⟨rfl, Or.inl h2⟩) h27 ⟨hk, fun _ => hl', by omega⟩] at hrun
        have P1 := PI_rule hP hk hl' (w := tTk b len k) (by omega)
        unfold trA
        repeat (first | with_reducible refine ok_W ?_ | with_reducible refine ok_cO (by first | assumption | omega | (simp (disch := omega) only [n32_of, neg_n32_1, n32_nat, n32_lt, n32_le, n32_eq, n32_add, n32_sub, n32_mul, n32_m1, m1_n32, n32_addm1, m1_lt, lt_m1, m1_le, le_m1, m1_add1, ofNat_n32, u2_self, u2_n, mk_I, mk_T, ne_eq, not_true_eq_false, not_false_eq_true, ]; first | done | omega)) ?_ | with_reducible refine ok_ip (by first | assumption | omega | (simp (disch := omega) only [n32_of, neg_n32_1, n32_nat, n32_lt, n32_le, n32_eq, n32_add, n32_sub, n32_mul, n32_m1, m1_n32, n32_addm1, m1_lt, lt_m1, m1_le, le_m1, m1_add1, ofNat_n32, u2_self, u2_n, mk_I, mk_T, ne_eq, not_true_eq_false, not_false_eq_true, ]; first | done | omega)) ?_ | with_reducible refine ok_in (by first | assumption | omega | (simp (disch := omega) only [n32_of, neg_n32_1, n32_nat, n32_lt, n32_le, n32_eq, n32_add, n32_sub, n32_mul, n32_m1, m1_n32, n32_addm1, m1_lt, lt_m1, m1_le, le_m1, m1_add1, ofNat_n32, u2_self, u2_n, mk_I, mk_T, ne_eq, not_true_eq_false, not_false_eq_true, ]; first | done | omega)) ?_)
        have hc32 : f 235 32 = n32 (500 * pg + (frc (xR C)).length) := hC.1
        simp (disch := omega) only [n32_of, neg_n32_1, n32_nat, n32_lt, n32_le, n32_eq, n32_add, n32_sub, n32_mul, n32_m1, m1_n32, n32_addm1, m1_lt, lt_m1, m1_le, le_m1, m1_add1, ofNat_n32, u2_self, u2_n, mk_I, mk_T, hc32]
        -- the plane ahead of the E
        generalize hf1 : u2 (u2 (u2 f 245 (20 * pg + (xR C).length) (n32 (tTk b len k))) 235 11 (n32 (k + 1))) 246 (20 * pg + (xR C).length) (n32 (500 * pg + (frc (xR C)).length)) = f1
        have e01 : eqR pg f f1 := fun a j q1 q2 q3 q4 q5 q6 => by rw [← hf1, u2_n (by omega), u2_n (by omega), u2_n (by omega)]
        have fr1 : ∀ a j, a ≠ 245 → a ≠ 246 → (a ≠ 235 ∨ j ≠ 11) → f1 a j = f a j := fun a j q1 q2 q3 => by rw [← hf1, u2_n (by omega), u2_n (by omega), u2_n (by omega)]
        have fr2 : ∀ a j, j ≠ 20 * pg + (xR C).length → (a ≠ 235 ∨ j ≠ 11) → f1 a j = f a j := fun a j q1 q3 => by rw [← hf1, u2_n (by omega), u2_n (by omega), u2_n (by omega)]
        have m11 : f1 235 11 = n32 (k + 1) := by rw [← hf1, u2_n (by omega), u2_self]
        have m245 : f1 245 (20 * pg + (xR C).length) = n32 (tTk b len k) := by rw [← hf1, u2_n (by omega), u2_n (by omega), u2_self]
        have m246 : f1 246 (20 * pg + (xR C).length) = n32 (500 * pg + (frc (xR C)).length) := by rw [← hf1, u2_self]
        have eCd1 : rCd (cNew (xR C) (tTk b len k)) [] = frc (xR C) := by
          show frc (xR C) ++ ([] ++ ([] ++ ([] ++ []))) = _
          simp
        have j1 : ∀ j, j < k + 1 → tTk b len j ≠ 27 := fun j hj' => by
          by_cases ej : j = k
          · rw [ej]; exact h27
          · exact hj j (by omega)
        refine ok_oB (ok_mono (r_expr hN hpg (TR_R hTR e01) P1 j1 hrun ⟨m11, (fr1 _ _ (by omega) (by omega) (by omega)).trans g12, (fr1 _ _ (by omega) (by omega) (by omega)).trans g13⟩ (by rw [eCd1]; exact (fr1 _ _ (by omega) (by omega) (by omega)).trans hC.1) (by rw [eCd1]; exact segR_cg hC.2 (fun j => fr1 _ _ (by omega) (by omega) (by omega)) (fun j => fr1 _ _ (by omega) (by omega) (by omega)))) (fun u σ' hq => ?_))
        obtain ⟨f2, rfl, e2, hq⟩ := hq
        have m19 : f2 235 19 = n32 pg := (e2 _ _ (by omega) (by omega) (by omega)).trans ((fr1 _ _ (by omega) (by omega) (by omega)).trans r3)
        rcases hq with hF | ⟨k1, c, ws, lk, P2, o2, j2, run2, n2, ⟨w11, w12, w13⟩, hZ2⟩
        · refine ok_mono (r_trBF hN hpg hl' hF m19) (fun u σ' hq => ?_)
          obtain ⟨f3, q1, q2, q3⟩ := hq
          exact ⟨f3, q1, eqR_tr e01 (eqR_tr (eqR_E e2) q2), Or.inl q3⟩
        · obtain ⟨b1, b2, b3', b4, b5, b6⟩ := PI_r P2 (by omega)
          obtain ⟨y, y1, y2, y3, y4, y5, y6, y7, y8, y9, y10, y11, y12, y13, y14, y15, y16⟩ := r_tok (TR_E (TR_R hTR e01) e2) b3' j2
          have m250 : f2 250 pg = n32 (nrl (xR C)) := (e2 _ _ (by omega) (by omega) (by omega)).trans ((fr1 _ _ (by omega) (by omega) (by omega)).trans r2)
          have m32 := hZ2.1.1
          have lenE : (rCd (cNew (xR C) (tTk b len k)) (c ++ ws)).length = (frc (xR C)).length + (c ++ ws).length := by
            show (frc (xR C) ++ ([] ++ ([] ++ ([] ++ (c ++ ws))))).length = _
            simp
          rw [lenE, ← Nat.add_assoc] at m32
          unfold trB
          repeat (first | with_reducible refine ok_W ?_ | with_reducible refine ok_cO (by first | assumption | omega | (simp (disch := omega) only [n32_of, neg_n32_1, n32_nat, n32_lt, n32_le, n32_eq, n32_add, n32_sub, n32_mul, n32_m1, m1_n32, n32_addm1, m1_lt, lt_m1, m1_le, le_m1, m1_add1, ofNat_n32, u2_self, u2_n, mk_I, mk_T, ne_eq, not_true_eq_false, not_false_eq_true, m19]; first | done | omega)) ?_ | with_reducible refine ok_ip (by first | assumption | omega | (simp (disch := omega) only [n32_of, neg_n32_1, n32_nat, n32_lt, n32_le, n32_eq, n32_add, n32_sub, n32_mul, n32_m1, m1_n32, n32_addm1, m1_lt, lt_m1, m1_le, le_m1, m1_add1, ofNat_n32, u2_self, u2_n, mk_I, mk_T, ne_eq, not_true_eq_false, not_false_eq_true, m19]; first | done | omega)) ?_ | with_reducible refine ok_in (by first | assumption | omega | (simp (disch := omega) only [n32_of, neg_n32_1, n32_nat, n32_lt, n32_le, n32_eq, n32_add, n32_sub, n32_mul, n32_m1, m1_n32, n32_addm1, m1_lt, lt_m1, m1_le, le_m1, m1_add1, ofNat_n32, u2_self, u2_n, mk_I, mk_T, ne_eq, not_true_eq_false, not_false_eq_true, m19]; first | done | omega)) ?_)
          simp (disch := omega) only [n32_of, neg_n32_1, n32_nat, n32_lt, n32_le, n32_eq, n32_add, n32_sub, n32_mul, n32_m1, m1_n32, n32_addm1, m1_lt, lt_m1, m1_le, le_m1, m1_add1, ofNat_n32, u2_self, u2_n, mk_I, mk_T, m19, m32, m250]
          generalize hf3 : u2 (u2 f2 247 (20 * pg + (xR C).length) (n32 (500 * pg + (frc (xR C)).length + (c ++ ws).length))) 248 (20 * pg + (xR C).length) (n32 (nrl (xR C))) = f3
          have e23 : eqR pg f2 f3 := fun a j q1 q2 q3 q4 q5 q6 => by rw [← hf3, u2_n (by omega), u2_n (by omega)]
          have fr3 : ∀ a j, a ≠ 247 → a ≠ 248 → f3 a j = f2 a j := fun a j q1 q2 => by rw [← hf3, u2_n (by omega), u2_n (by omega)]
          have fr4 : ∀ a j, j ≠ 20 * pg + (xR C).length → f3 a j = f2 a j := fun a j q1 => by rw [← hf3, u2_n (by omega), u2_n (by omega)]
          have t247 : f3 247 (20 * pg + (xR C).length) = n32 (500 * pg + (frc (xR C)).length + (c ++ ws).length) := by rw [← hf3, u2_n (by omega), u2_self]
          have t248 : f3 248 (20 * pg + (xR C).length) = n32 (nrl (xR C)) := by rw [← hf3, u2_self]
          have e03 : eqR pg f f3 := eqR_tr e01 (eqR_tr (eqR_E e2) e23)
          have hTR3 : TR b len f3 := TR_R hTR e03
          have z11 : f3 235 11 = n32 k1 := (fr3 _ _ (by omega) (by omega)).trans w11
          have z12 : f3 235 12 = n32 0 := (fr3 _ _ (by omega) (by omega)).trans w12
          have z13 : f3 235 13 = n32 0 := (fr3 _ _ (by omega) (by omega)).trans w13
          have z238 : f3 238 k1 = n32 y := (fr3 _ _ (by omega) (by omega)).trans y1
          have z239 : f3 239 k1 = n32 (tPl b len k1) := (fr3 _ _ (by omega) (by omega)).trans y2
          have z244 : f3 244 pg = n32 (xR C).length := (fr3 _ _ (by omega) (by omega)).trans ((e2 _ _ (by omega) (by omega) (by omega)).trans ((fr1 _ _ (by omega) (by omega) (by omega)).trans r1))
          have z250 : f3 250 pg = n32 (nrl (xR C)) := (fr3 _ _ (by omega) (by omega)).trans m250
          have z19 : f3 235 19 = n32 pg := (fr3 _ _ (by omega) (by omega)).trans m19
          have z245 : f3 245 (20 * pg + (xR C).length) = n32 (tTk b len k) := (fr3 _ _ (by omega) (by omega)).trans ((e2 _ _ (by omega) (by omega) (by omega)).trans m245)
          have z246 : f3 246 (20 * pg + (xR C).length) = n32 (500 * pg + (frc (xR C)).length) := (fr3 _ _ (by omega) (by omega)).trans ((e2 _ _ (by omega) (by omega) (by omega)).trans m246)
          have zRR : RRs pg f3 0 (500 * pg) 0 (xR C) := RRs_cg _ _ _ _ r4 (fun a j q1 q2 q3 q4 => (fr4 a j (by omega)).trans ((e2 _ _ (by omega) (by omega) (by omega)).trans (fr2 a j (by omega) (by omega)))) (fun a j q1 q2 q3 q4 => (fr3 a j (by omega) (by omega)).trans ((e2 _ _ (by omega) (by omega) (by omega)).trans (fr1 a j (by omega) (by omega) (by omega))))
          have zC : rCo pg f3 (rCd (cNew (xR C) (tTk b len k)) (c ++ ws)) := ⟨(fr3 _ _ (by omega) (by omega)).trans hZ2.1.1, segR_cg hZ2.1.2 (fun j => fr3 _ _ (by omega) (by omega)) (fun j => fr3 _ _ (by omega) (by omega))⟩
          rw [r_is z13 z11 b3' z238 y4 (by omega)]
          refine ok_oB (ok_some ?_)
          unfold J_X12_tellRule_156
          obtain ⟨N', hN'⟩ : ∃ N', N = N' + 1 := ⟨N - 1, by omega⟩
          by_cases h3 : tTk b len k1 = 3
          · refine ok_ini (yz (by omega)) ?_
            rw [bI_t (show y = 23 by omega)]
            rw [show 401 - k1 = (401 - (k1 + 1)) + 1 by omega] at run2
            by_cases hk1 : k1 < 400
            · rw [r_next z11 hk1]
              refine ok_oB (ok_some ?_)
              rw [run_if h3 o2 hk1] at run2
              have e34 : eqE pg f3 (u2 f3 235 11 (n32 (k1 + 1))) := eqE_u (by omega)
              have eCd2 : rCd (cIfE (cNew (xR C) (tTk b len k)) (c ++ ws)) [] = rCd (cNew (xR C) (tTk b len k)) (c ++ ws) := by
                show frc (xR C) ++ ((c ++ ws) ++ ([] ++ ([] ++ []))) = frc (xR C) ++ ([] ++ ([] ++ ([] ++ (c ++ ws))))
                simp
              have hQ3 : RQ pg f3 (cIfE (cNew (xR C) (tTk b len k)) (c ++ ws)) 1 1 := ⟨⟨z244, z250, z19⟩, zRR, fun _ => ⟨z245, z246⟩, fun _ => ⟨t247, t248, trivial⟩⟩
              have := r_158 (σ := σ) hN hpg N (k1 + 1) (cIfE (cNew (xR C) (tTk b len k)) (c ++ ws)) (u2 f3 235 11 (n32 (k1 + 1))) (by omega) (TR_E hTR3 e34) (PI_if P2 hk1 o2) (fun j hj' => by
                by_cases ej : j = k1
                · rw [ej]; omega
                · exact j2 j (by omega)) run2 ⟨u2_self, (u2_n (by omega)).trans z12, (u2_n (by omega)).trans z13⟩ ⟨by rw [eCd2]; exact (u2_n (by omega)).trans zC.1, by rw [eCd2]; exact segR_cg zC.2 (fun j => u2_n (by omega)) (fun j => u2_n (by omega))⟩ (RQ_E hQ3 e34)
              exact ok_mono this (fun u σ' hq => ruQ_tr (eqR_tr e03 (eqR_E e34)) hq (by omega))
            · have ek : k1 = 400 := by omega
              subst ek
              rw [r_next4 z13 z11]
              refine ok_oB (ok_some ?_)
              rw [run_room (by omega) (by omega) (by omega)] at run2
              have hF := RF_2 (O := O) z239 (Or.inr rfl) run2.symm
              rw [hN', r_158F hF]
              exact ok_some ⟨_, rfl, eqR_tr e03 (eqR_E eqE_f), Or.inl hF⟩
          · refine ok_ipi (nz (by omega)) ?_
            rw [bI_f (show ¬ y = 23 by omega)]
            rw [hN', H_X12_tellRule_158, ← hN']
            refine ok_ip rfl ?_
            have hu : rCd (cNew (xR C) (tTk b len k)) (c ++ ws) = frc (xR C ++ [(tTk b len k, c ++ ws, [])]) := by
              rw [frc_app]
              show frc (xR C) ++ ([] ++ ([] ++ ([] ++ (c ++ ws)))) = frc (xR C) ++ ((c ++ ws) ++ ([] ++ []))
              simp
            have := r_211 (N := N) (σ := σ) (u := (tTk b len k, c ++ ws, [])) hpg hTR3 P2 (Or.inl rfl) o2 j2 run2 n2 (fun _ => h3) (fun q => by omega) ⟨z11, z12, z13⟩ zC rfl hu (by show nrl (xR C) + 0 ≤ 200; omega) z244 z250 z19 zRR z245 z246 t247 t248 trivial
            exact ok_mono this (fun u σ' hq => ruQ_tr e03 hq (by omega))
      · have ek : k = 400 := by omega
        subst ek
        rw [r_next4 k13 k11]
        refine ok_oB (ok_some ?_)
        rw [run_room (Or.inl ⟨rfl, Or.inl h2⟩) h27 (by omega)] at hrun
        have hF := RF_2 (O := O) k239 (Or.inr rfl) hrun.symm
        refine ok_mono (r_trAF hN hpg hl' hF (by rw [u2_n (by omega), u2_n (by omega)]; exact k19)) (fun u σ' hq => ?_)
        obtain ⟨f3, q1, q2, q3⟩ := hq
        exact ⟨f3, q1, eqR_tr ea (eqR_tr (eqR_E eqE_f) q2), Or.inl q3⟩
  unfold F_X12_tellRule
  rw [show (20 : Int32) = n32 20 from rfl, r_is g13 g11 b3 x1 x4 (by omega)]
  refine ok_oB (ok_some ?_)
  refine ok_if (fun hc => good (by rw [bI_n0] at hc; omega)) (fun n1 => ?_)
  rw [show (21 : Int32) = n32 21 from rfl, r_is g13 g11 b3 x1 x4 (by omega)]
  refine ok_oB (ok_some ?_)
  refine ok_if (fun hc => good (by rw [bI_n0] at hc; omega)) (fun n2 => ?_)
  rw [show (22 : Int32) = n32 22 from rfl, r_is g13 g11 b3 x1 x4 (by omega)]
  refine ok_oB (ok_some ?_)
  refine ok_if (fun hc => good (by rw [bI_n0] at hc; omega)) (fun n3 => ?_)
  rw [bI_n0] at n1 n2 n3
  rw [run_bad (by omega)] at hrun
  rw [show (1 : Int32) = n32 1 from rfl, r_fail g13 g11 b3]
  exact ok_oB (ok_some (flt 1 (Or.inl rfl) hrun.symm))
end RRU
