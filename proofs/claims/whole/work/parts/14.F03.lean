theorem oI_s (i : Nat) : oI (some i) = n32 i := rfl
theorem oI_n : oI none = m1 := rfl
theorem bB_t : bB true = n32 1 := rfl
theorem bB_f : bB false = n32 0 := rfl
section RSALE2
variable {N : Nat} {σ : aSt} {K : SP} {x1 : Int32} {k : Int32 → Int32 → Int32 → Int32 → aSt → Option (Int32 × aSt)} {Q : Int32 → aSt → Prop}
theorem r_stops {c l : Nat} {f0 : Nat → Nat → Int32} {G : SG} (hN : 10000 ≤ N) (hK : KOK K) (hG : GI K G) (hR : RS f0 K G) (hH : HS f0 K G) (hc : c < 3) (hcl : gcl G c = some l) (hsec : gsec G < 100000) : Ok (F_X12_stops N (n32 c) (n32 (gsec G)) (mk σ f0)) (fun y σ' => ∃ f', σ' = mk σ f' ∧ RS f' K (gStop K c G) ∧ HS f' K (gStop K c G) ∧ eqS scS f0 f' ∧ ((y = n32 0 ∧ ggo (gStop K c G) = ggo G) ∨ (y = n32 1 ∧ ggo (gStop K c G) = ggo G + 1))) := by
  have n24 := hK.1.1
  have m6 := hK.1.2.1
  have hnx := hG.1
  have hgo := hG.2.1
  have hlx := hG.2.2.1 c l hc hcl
  have dl := hK.1.2.2.1 l (by omega)
  have hpos : 0 < N := by omega
  unfold F_X12_stops
  with_reducible refine ok_cO (by first | assumption | omega | (simp (disch := omega) only [n32_of, neg_n32_1, n32_nat, n32_lt, n32_le, n32_eq, n32_add, n32_sub, n32_mul, n32_m1, m1_n32, n32_addm1, m1_lt, lt_m1, m1_le, le_m1, m1_add1, ofNat_n32, u2_self, u2_n, mk_I, mk_T, ne_eq, not_true_eq_false, not_false_eq_true, ]; first | done | omega)) ?_
  have h278 : aI (mk σ f0) 278 (n32 c).toNatClampNeg = n32 l := by
    simp (disch := omega) only [n32_of, neg_n32_1, n32_nat, n32_lt, n32_le, n32_eq, n32_add, n32_sub, n32_mul, n32_m1, m1_n32, n32_addm1, m1_lt, lt_m1, m1_le, le_m1, m1_add1, ofNat_n32, u2_self, u2_n, mk_I, mk_T, ]
    rw [hR.2.2.1 c hc, hcl]
    rfl
  rw [h278]
  refine r_best hN hK hG hR hH hc hcl (fun f he => ?_) N 0 f0 (n32 0) (by omega) (by omega) eqS_rfl (fun b' hb' => by cases hb')
  obtain ⟨g1, g2, g3, g4, g5, g6⟩ := RS_sc hR he
  have hHf := HS_sc hH he
  have heS : eqS scS f0 f := eqS_mono he (fun a ha => by omega)
  have e43 := g1.1.2.1
  have eb : f 262 l = n32 (lo (kD K) 3 l) := g1.1.2.2.1 3 l (by omega) (by omega)
  have ek : f 260 l = n32 (lo (kD K) 1 l) := g1.1.2.2.1 1 l (by omega) (by omega)
  have ep := g4 c hc (by rw [hcl]; simp)
  rw [H_X12_stops_16]
  with_reducible refine ok_ip (by first | assumption | omega | (simp (disch := omega) only [n32_of, neg_n32_1, n32_nat, n32_lt, n32_le, n32_eq, n32_add, n32_sub, n32_mul, n32_m1, m1_n32, n32_addm1, m1_lt, lt_m1, m1_le, le_m1, m1_add1, ofNat_n32, u2_self, u2_n, mk_I, mk_T, ne_eq, not_true_eq_false, not_false_eq_true, e43]; first | done | omega)) ?_
  cases hb : bst (gLim K G l) (gOk K G) (n32 (gcp G c)) (hm (kD K)) with
  | none =>
    have hgs : gStop K c G = G := by simp only [gStop, hcl, hb]
    rw [hgs]
    with_reducible refine ok_in ?_ ?_
    · exact fun q => q rfl
    with_reducible refine ok_cO ?_ ?_
    · exact nar_b0
    exact ok_some ⟨f, rfl, ⟨g1, g2, g3, g4, g5, g6⟩, hHf, heS, Or.inl ⟨rfl, rfl⟩⟩
  | some b =>
    have hgs : gStop K c G = gSell K c l b G := by simp only [gStop, hcl, hb]
    rw [hgs]
    have hbs := bst_some hb
    have q76 := g2.1 b (lo (kD K) 1 l) (by omega) (by omega)
    have q77 := g2.2 b (by omega)
    with_reducible refine ok_ip ?_ ?_
    · exact oI_ne (by omega)
    repeat (first | with_reducible refine ok_W ?_ | with_reducible refine ok_cO (by first | assumption | omega | (simp (disch := omega) only [n32_of, neg_n32_1, n32_nat, n32_lt, n32_le, n32_eq, n32_add, n32_sub, n32_mul, n32_m1, m1_n32, n32_addm1, m1_lt, lt_m1, m1_le, le_m1, m1_add1, ofNat_n32, u2_self, u2_n, mk_I, mk_T, ne_eq, not_true_eq_false, not_false_eq_true, ek, eb, oI_s]; first | done | omega)) ?_ | with_reducible refine ok_ip (by first | assumption | omega | (simp (disch := omega) only [n32_of, neg_n32_1, n32_nat, n32_lt, n32_le, n32_eq, n32_add, n32_sub, n32_mul, n32_m1, m1_n32, n32_addm1, m1_lt, lt_m1, m1_le, le_m1, m1_add1, ofNat_n32, u2_self, u2_n, mk_I, mk_T, ne_eq, not_true_eq_false, not_false_eq_true, ek, eb, oI_s]; first | done | omega)) ?_ | with_reducible refine ok_in (by first | assumption | omega | (simp (disch := omega) only [n32_of, neg_n32_1, n32_nat, n32_lt, n32_le, n32_eq, n32_add, n32_sub, n32_mul, n32_m1, m1_n32, n32_addm1, m1_lt, lt_m1, m1_le, le_m1, m1_add1, ofNat_n32, u2_self, u2_n, mk_I, mk_T, ne_eq, not_true_eq_false, not_false_eq_true, ek, eb, oI_s]; first | done | omega)) ?_)
    simp (disch := omega) only [n32_of, neg_n32_1, n32_nat, n32_lt, n32_le, n32_eq, n32_add, n32_sub, n32_mul, n32_m1, m1_n32, n32_addm1, m1_lt, lt_m1, m1_le, le_m1, m1_add1, ofNat_n32, u2_self, u2_n, mk_I, mk_T, ek, eb, ep, q76, q77, oI_s]
    refine ok_some ⟨_, rfl, ?_, ?_, ?_, Or.inr ⟨rfl, rfl⟩⟩
    · refine ⟨RC_S g1 ?_, ⟨fun b' k' hb' hk' => ?_, fun b' hb' => ?_⟩, fun c' hc' => ?_, fun c' hc' hne => ?_, fun l' hl' => ?_, fun l' r' hr' => ?_⟩
      · exact eqS_u2 (eqS_u2 (eqS_u2 (eqS_u2 (eqS_u2 (eqS_u2 (eqS_u2 (eqS_u2 eqS_rfl (by omega)) (by omega)) (by omega)) (by omega)) (by omega)) (by omega)) (by omega)) (by omega)
      · show _ = n32 (fu (gha G) b (fu (gha G b) (lo (kD K) 1 l) (gha G b (lo (kD K) 1 l) + lo (kD K) 3 l)) b' k')
        by_cases e : b' = b
        · subst e
          rw [fu_at]
          by_cases e2 : k' = lo (kD K) 1 l
          · subst e2
            rw [fu_at]
            simp (disch := omega) only [n32_of, neg_n32_1, n32_nat, n32_lt, n32_le, n32_eq, n32_add, n32_sub, n32_mul, n32_m1, m1_n32, n32_addm1, m1_lt, lt_m1, m1_le, le_m1, m1_add1, ofNat_n32, u2_self, u2_n, mk_I, mk_T, ]
          · rw [fu_ne e2]
            simp (disch := omega) only [n32_of, neg_n32_1, n32_nat, n32_lt, n32_le, n32_eq, n32_add, n32_sub, n32_mul, n32_m1, m1_n32, n32_addm1, m1_lt, lt_m1, m1_le, le_m1, m1_add1, ofNat_n32, u2_self, u2_n, mk_I, mk_T, ]
            exact g2.1 b' k' hb' hk'
        · rw [fu_ne e]
          simp (disch := omega) only [n32_of, neg_n32_1, n32_nat, n32_lt, n32_le, n32_eq, n32_add, n32_sub, n32_mul, n32_m1, m1_n32, n32_addm1, m1_lt, lt_m1, m1_le, le_m1, m1_add1, ofNat_n32, u2_self, u2_n, mk_I, mk_T, ]
          exact g2.1 b' k' hb' hk'
      · show _ = n32 (fu (gsp G) b (gsp G b + gcp G c * lo (kD K) 3 l) b')
        by_cases e : b' = b
        · subst e
          rw [fu_at]
          simp (disch := omega) only [n32_of, neg_n32_1, n32_nat, n32_lt, n32_le, n32_eq, n32_add, n32_sub, n32_mul, n32_m1, m1_n32, n32_addm1, m1_lt, lt_m1, m1_le, le_m1, m1_add1, ofNat_n32, u2_self, u2_n, mk_I, mk_T, ]
        · rw [fu_ne e]
          simp (disch := omega) only [n32_of, neg_n32_1, n32_nat, n32_lt, n32_le, n32_eq, n32_add, n32_sub, n32_mul, n32_m1, m1_n32, n32_addm1, m1_lt, lt_m1, m1_le, le_m1, m1_add1, ofNat_n32, u2_self, u2_n, mk_I, mk_T, ]
          exact g2.2 b' hb'
      · show _ = oI (fu (gcl G) c none c')
        by_cases e : c' = c
        · subst e
          rw [fu_at]
          simp (disch := omega) only [n32_of, neg_n32_1, n32_nat, n32_lt, n32_le, n32_eq, n32_add, n32_sub, n32_mul, n32_m1, m1_n32, n32_addm1, m1_lt, lt_m1, m1_le, le_m1, m1_add1, ofNat_n32, u2_self, u2_n, mk_I, mk_T, ]
          rfl
        · rw [fu_ne e]
          simp (disch := omega) only [n32_of, neg_n32_1, n32_nat, n32_lt, n32_le, n32_eq, n32_add, n32_sub, n32_mul, n32_m1, m1_n32, n32_addm1, m1_lt, lt_m1, m1_le, le_m1, m1_add1, ofNat_n32, u2_self, u2_n, mk_I, mk_T, ]
          exact g3 c' hc'
      · have hne' : fu (gcl G) c none c' ≠ none := hne
        show _ = n32 (gcp G c')
        by_cases e : c' = c
        · subst e
          rw [fu_at] at hne'
          exact absurd rfl hne'
        · rw [fu_ne e] at hne'
          simp (disch := omega) only [n32_of, neg_n32_1, n32_nat, n32_lt, n32_le, n32_eq, n32_add, n32_sub, n32_mul, n32_m1, m1_n32, n32_addm1, m1_lt, lt_m1, m1_le, le_m1, m1_add1, ofNat_n32, u2_self, u2_n, mk_I, mk_T, ]
          exact g4 c' hc' hne'
      · simp (disch := omega) only [n32_of, neg_n32_1, n32_nat, n32_lt, n32_le, n32_eq, n32_add, n32_sub, n32_mul, n32_m1, m1_n32, n32_addm1, m1_lt, lt_m1, m1_le, le_m1, m1_add1, ofNat_n32, u2_self, u2_n, mk_I, mk_T, ]
        exact g5 l' hl'
      · have hr2 : fu (gre G) l (some (some b, gcp G c, gsec G, c)) l' = some r' := hr'
        by_cases e : l' = l
        · subst e
          rw [fu_at] at hr2
          cases hr2
          refine ⟨?_, ?_, ?_, ?_⟩ <;> simp (disch := omega) only [n32_of, neg_n32_1, n32_nat, n32_lt, n32_le, n32_eq, n32_add, n32_sub, n32_mul, n32_m1, m1_n32, n32_addm1, m1_lt, lt_m1, m1_le, le_m1, m1_add1, ofNat_n32, u2_self, u2_n, mk_I, mk_T, ] <;> rfl
        · rw [fu_ne e] at hr2
          simp (disch := omega) only [n32_of, neg_n32_1, n32_nat, n32_lt, n32_le, n32_eq, n32_add, n32_sub, n32_mul, n32_m1, m1_n32, n32_addm1, m1_lt, lt_m1, m1_le, le_m1, m1_add1, ofNat_n32, u2_self, u2_n, mk_I, mk_T, ]
          exact g6 l' r' hr2
    · intro b' hb'
      show _ = bB (fu (gst G) b true b' || decide (kO K = some b'))
      by_cases e : b' = b
      · subst e
        rw [fu_at]
        simp (disch := omega) only [n32_of, neg_n32_1, n32_nat, n32_lt, n32_le, n32_eq, n32_add, n32_sub, n32_mul, n32_m1, m1_n32, n32_addm1, m1_lt, lt_m1, m1_le, le_m1, m1_add1, ofNat_n32, u2_self, u2_n, mk_I, mk_T, ]
        rfl
      · rw [fu_ne e]
        simp (disch := omega) only [n32_of, neg_n32_1, n32_nat, n32_lt, n32_le, n32_eq, n32_add, n32_sub, n32_mul, n32_m1, m1_n32, n32_addm1, m1_lt, lt_m1, m1_le, le_m1, m1_add1, ofNat_n32, u2_self, u2_n, mk_I, mk_T, ]
        exact hHf b' hb'
    · exact eqS_u2 (eqS_u2 (eqS_u2 (eqS_u2 (eqS_u2 (eqS_u2 (eqS_u2 (eqS_u2 heS (by omega)) (by omega)) (by omega)) (by omega)) (by omega)) (by omega)) (by omega)) (by omega)
theorem r_stopc {n c : Nat} {x2 : Int32} {f : Nat → Nat → Int32} {G : SG} (hN : 10000 ≤ N) (hK : KOK K) (hG : GI K G) (hR : RS f K G) (hH : HS f K G) (hc : c < 3) (hn0 : 0 < n) (hsec : gsec G < 100000) (h : ∀ f', RS f' K (gStop K c G) → HS f' K (gStop K c G) → eqS scS f f' → Ok (H_X12_goes_222 N k (n - 1) x1 x2 (n32 (ggo (gStop K c G))) (n32 (gsec G)) (n32 (c + 1)) (mk σ f')) Q) : Ok (H_X12_goes_222 N k n x1 x2 (n32 (ggo G)) (n32 (gsec G)) (n32 c) (mk σ f)) Q := by
  obtain ⟨n, rfl⟩ : ∃ m, n = m + 1 := ⟨n - 1, by omega⟩
  rw [Nat.add_sub_cancel] at h
  have hcl := hR.2.2.1 c hc
  rw [H_X12_goes_222]
  unfold J_X12_goes_253
  with_reducible refine ok_in (by first | assumption | omega | (simp (disch := omega) only [n32_of, neg_n32_1, n32_nat, n32_lt, n32_le, n32_eq, n32_add, n32_sub, n32_mul, n32_m1, m1_n32, n32_addm1, m1_lt, lt_m1, m1_le, le_m1, m1_add1, ofNat_n32, u2_self, u2_n, mk_I, mk_T, ne_eq, not_true_eq_false, not_false_eq_true, ]; first | done | omega)) ?_
  with_reducible refine ok_cO (by first | assumption | omega | (simp (disch := omega) only [n32_of, neg_n32_1, n32_nat, n32_lt, n32_le, n32_eq, n32_add, n32_sub, n32_mul, n32_m1, m1_n32, n32_addm1, m1_lt, lt_m1, m1_le, le_m1, m1_add1, ofNat_n32, u2_self, u2_n, mk_I, mk_T, ne_eq, not_true_eq_false, not_false_eq_true, ]; first | done | omega)) ?_
  cases hcc : gcl G c with
  | none =>
    have hgs : gStop K c G = G := by
      unfold gStop
      rw [hcc]
    rw [hcc] at hcl
    rw [hgs] at h
    with_reducible refine ok_ip ?_ ?_
    · simp (disch := omega) only [n32_of, neg_n32_1, n32_nat, n32_lt, n32_le, n32_eq, n32_add, n32_sub, n32_mul, n32_m1, m1_n32, n32_addm1, m1_lt, lt_m1, m1_le, le_m1, m1_add1, ofNat_n32, u2_self, u2_n, mk_I, mk_T, hcl]
      rfl
    simp (disch := omega) only [n32_of, neg_n32_1, n32_nat, n32_lt, n32_le, n32_eq, n32_add, n32_sub, n32_mul, n32_m1, m1_n32, n32_addm1, m1_lt, lt_m1, m1_le, le_m1, m1_add1, ofNat_n32, u2_self, u2_n, mk_I, mk_T, ]
    exact h f hR hH eqS_rfl
  | some l =>
    have hlx := hG.2.2.1 c l hc hcc
    have n24 := hK.1.1
    have hnx := hG.1
    rw [hcc] at hcl
    with_reducible refine ok_in ?_ ?_
    · simp (disch := omega) only [n32_of, neg_n32_1, n32_nat, n32_lt, n32_le, n32_eq, n32_add, n32_sub, n32_mul, n32_m1, m1_n32, n32_addm1, m1_lt, lt_m1, m1_le, le_m1, m1_add1, ofNat_n32, u2_self, u2_n, mk_I, mk_T, hcl]
      show ¬ (n32 l = m1)
      first | assumption | omega | (simp (disch := omega) only [n32_of, neg_n32_1, n32_nat, n32_lt, n32_le, n32_eq, n32_add, n32_sub, n32_mul, n32_m1, m1_n32, n32_addm1, m1_lt, lt_m1, m1_le, le_m1, m1_add1, ofNat_n32, u2_self, u2_n, mk_I, mk_T, ne_eq, not_true_eq_false, not_false_eq_true, ]; first | done | omega)
    refine ok_bind (r_stops hN hK hG hR hH hc hcc hsec) (fun y σ1 hq => ?_)
    obtain ⟨f1, rfl, q1, q2, q3, q4⟩ := hq
    have := h f1 q1 q2 q3
    rcases q4 with ⟨rfl, hg⟩ | ⟨rfl, hg⟩
    · with_reducible refine ok_ip (by first | assumption | omega | (simp (disch := omega) only [n32_of, neg_n32_1, n32_nat, n32_lt, n32_le, n32_eq, n32_add, n32_sub, n32_mul, n32_m1, m1_n32, n32_addm1, m1_lt, lt_m1, m1_le, le_m1, m1_add1, ofNat_n32, u2_self, u2_n, mk_I, mk_T, ne_eq, not_true_eq_false, not_false_eq_true, ]; first | done | omega)) ?_
      rw [hg] at this
      simp (disch := omega) only [n32_of, neg_n32_1, n32_nat, n32_lt, n32_le, n32_eq, n32_add, n32_sub, n32_mul, n32_m1, m1_n32, n32_addm1, m1_lt, lt_m1, m1_le, le_m1, m1_add1, ofNat_n32, u2_self, u2_n, mk_I, mk_T, ]
      exact this
    · with_reducible refine ok_in (by first | assumption | omega | (simp (disch := omega) only [n32_of, neg_n32_1, n32_nat, n32_lt, n32_le, n32_eq, n32_add, n32_sub, n32_mul, n32_m1, m1_n32, n32_addm1, m1_lt, lt_m1, m1_le, le_m1, m1_add1, ofNat_n32, u2_self, u2_n, mk_I, mk_T, ne_eq, not_true_eq_false, not_false_eq_true, ]; first | done | omega)) ?_
      rw [hg] at this
      simp (disch := omega) only [n32_of, neg_n32_1, n32_nat, n32_lt, n32_le, n32_eq, n32_add, n32_sub, n32_mul, n32_m1, m1_n32, n32_addm1, m1_lt, lt_m1, m1_le, le_m1, m1_add1, ofNat_n32, u2_self, u2_n, mk_I, mk_T, ]
      exact this
theorem r_lowc {n c : Nat} {x2 : Int32} {f : Nat → Nat → Int32} {G : SG} (hK : KOK K) (hG : GI K G) (hR : RS f K G) (hc : c < 3) (hn0 : 0 < n) (hsec : gsec G < 100000) (h : ∀ f', RS f' K (gLow K c G) → eqS scS f f' → Ok (H_X12_goes_262 N k (n - 1) x1 x2 (n32 (ggo (gLow K c G))) (n32 (gsec G)) (n32 (c + 1)) (mk σ f')) Q) : Ok (H_X12_goes_262 N k n x1 x2 (n32 (ggo G)) (n32 (gsec G)) (n32 c) (mk σ f)) Q := by
  obtain ⟨n, rfl⟩ : ∃ m, n = m + 1 := ⟨n - 1, by omega⟩
  rw [Nat.add_sub_cancel] at h
  have hR0 := hR
  obtain ⟨g1, g2, g3, g4, g5, g6⟩ := hR
  have hcl := g3 c hc
  rw [H_X12_goes_262]
  unfold J_X12_goes_368
  with_reducible refine ok_in (by first | assumption | omega | (simp (disch := omega) only [n32_of, neg_n32_1, n32_nat, n32_lt, n32_le, n32_eq, n32_add, n32_sub, n32_mul, n32_m1, m1_n32, n32_addm1, m1_lt, lt_m1, m1_le, le_m1, m1_add1, ofNat_n32, u2_self, u2_n, mk_I, mk_T, ne_eq, not_true_eq_false, not_false_eq_true, ]; first | done | omega)) ?_
  with_reducible refine ok_cO (by first | assumption | omega | (simp (disch := omega) only [n32_of, neg_n32_1, n32_nat, n32_lt, n32_le, n32_eq, n32_add, n32_sub, n32_mul, n32_m1, m1_n32, n32_addm1, m1_lt, lt_m1, m1_le, le_m1, m1_add1, ofNat_n32, u2_self, u2_n, mk_I, mk_T, ne_eq, not_true_eq_false, not_false_eq_true, ]; first | done | omega)) ?_
  cases hcc : gcl G c with
  | none =>
    have hgs : gLow K c G = G := by
      unfold gLow
      rw [hcc]
    rw [hcc] at hcl
    rw [hgs] at h
    with_reducible refine ok_in ?_ ?_
    · simp (disch := omega) only [n32_of, neg_n32_1, n32_nat, n32_lt, n32_le, n32_eq, n32_add, n32_sub, n32_mul, n32_m1, m1_n32, n32_addm1, m1_lt, lt_m1, m1_le, le_m1, m1_add1, ofNat_n32, u2_self, u2_n, mk_I, mk_T, hcl]
      exact fun q => q rfl
    simp (disch := omega) only [n32_of, neg_n32_1, n32_nat, n32_lt, n32_le, n32_eq, n32_add, n32_sub, n32_mul, n32_m1, m1_n32, n32_addm1, m1_lt, lt_m1, m1_le, le_m1, m1_add1, ofNat_n32, u2_self, u2_n, mk_I, mk_T, ]
    exact h f hR0 eqS_rfl
  | some l =>
    have hlx := hG.2.2.1 c l hc hcc
    have n24 := hK.1.1
    have hnx := hG.1
    have hk := hK.2 l (by omega)
    have hcl' : f 278 c = n32 l := by rw [hcl, hcc]; rfl
    have ep := g4 c hc (by rw [hcc]; simp)
    have el := (g5 l (by omega)).2
    have hgs : gLow K c G = if kL K l < gcp G c then (gsec G, gnx G, ggo G, gcl G, fu (gcp G) c (gcp G c - 1), gha G, gsp G, gnl G, gre G, gst G) else (gsec G, gnx G, ggo G + 1, fu (gcl G) c none, gcp G, gha G, gsp G, gnl G, fu (gre G) l (some (none, kL K l, gsec G, c)), gst G) := by
      simp only [gLow, hcc]
    rw [hgs] at h
    with_reducible refine ok_ip (by first | assumption | omega | (simp (disch := omega) only [n32_of, neg_n32_1, n32_nat, n32_lt, n32_le, n32_eq, n32_add, n32_sub, n32_mul, n32_m1, m1_n32, n32_addm1, m1_lt, lt_m1, m1_le, le_m1, m1_add1, ofNat_n32, u2_self, u2_n, mk_I, mk_T, ne_eq, not_true_eq_false, not_false_eq_true, hcl']; first | done | omega)) ?_
    with_reducible refine ok_cO (by first | assumption | omega | (simp (disch := omega) only [n32_of, neg_n32_1, n32_nat, n32_lt, n32_le, n32_eq, n32_add, n32_sub, n32_mul, n32_m1, m1_n32, n32_addm1, m1_lt, lt_m1, m1_le, le_m1, m1_add1, ofNat_n32, u2_self, u2_n, mk_I, mk_T, ne_eq, not_true_eq_false, not_false_eq_true, ]; first | done | omega)) ?_
    with_reducible refine ok_cO (by first | assumption | omega | (simp (disch := omega) only [n32_of, neg_n32_1, n32_nat, n32_lt, n32_le, n32_eq, n32_add, n32_sub, n32_mul, n32_m1, m1_n32, n32_addm1, m1_lt, lt_m1, m1_le, le_m1, m1_add1, ofNat_n32, u2_self, u2_n, mk_I, mk_T, ne_eq, not_true_eq_false, not_false_eq_true, hcl']; first | done | omega)) ?_
    by_cases hp : kL K l < gcp G c
    · rw [if_pos hp] at h
      with_reducible refine ok_in (by first | assumption | omega | (simp (disch := omega) only [n32_of, neg_n32_1, n32_nat, n32_lt, n32_le, n32_eq, n32_add, n32_sub, n32_mul, n32_m1, m1_n32, n32_addm1, m1_lt, lt_m1, m1_le, le_m1, m1_add1, ofNat_n32, u2_self, u2_n, mk_I, mk_T, ne_eq, not_true_eq_false, not_false_eq_true, hcl', ep, el]; first | done | omega)) ?_
      repeat (first | with_reducible refine ok_W ?_ | with_reducible refine ok_cO (by first | assumption | omega | (simp (disch := omega) only [n32_of, neg_n32_1, n32_nat, n32_lt, n32_le, n32_eq, n32_add, n32_sub, n32_mul, n32_m1, m1_n32, n32_addm1, m1_lt, lt_m1, m1_le, le_m1, m1_add1, ofNat_n32, u2_self, u2_n, mk_I, mk_T, ne_eq, not_true_eq_false, not_false_eq_true, ]; first | done | omega)) ?_ | with_reducible refine ok_ip (by first | assumption | omega | (simp (disch := omega) only [n32_of, neg_n32_1, n32_nat, n32_lt, n32_le, n32_eq, n32_add, n32_sub, n32_mul, n32_m1, m1_n32, n32_addm1, m1_lt, lt_m1, m1_le, le_m1, m1_add1, ofNat_n32, u2_self, u2_n, mk_I, mk_T, ne_eq, not_true_eq_false, not_false_eq_true, ]; first | done | omega)) ?_ | with_reducible refine ok_in (by first | assumption | omega | (simp (disch := omega) only [n32_of, neg_n32_1, n32_nat, n32_lt, n32_le, n32_eq, n32_add, n32_sub, n32_mul, n32_m1, m1_n32, n32_addm1, m1_lt, lt_m1, m1_le, le_m1, m1_add1, ofNat_n32, u2_self, u2_n, mk_I, mk_T, ne_eq, not_true_eq_false, not_false_eq_true, ]; first | done | omega)) ?_)
      simp (disch := omega) only [n32_of, neg_n32_1, n32_nat, n32_lt, n32_le, n32_eq, n32_add, n32_sub, n32_mul, n32_m1, m1_n32, n32_addm1, m1_lt, lt_m1, m1_le, le_m1, m1_add1, ofNat_n32, u2_self, u2_n, mk_I, mk_T, ep]
      refine h _ ⟨RC_S g1 ?_, ?_, ?_, ?_, ?_, ?_⟩ ?_
      · exact eqS_u2 eqS_rfl (by omega)
      · exact NR_S (S := fun a => a = 279) g2 (eqS_u2 eqS_rfl rfl) (by omega) (by omega)
      · intro c' hc'
        simp (disch := omega) only [n32_of, neg_n32_1, n32_nat, n32_lt, n32_le, n32_eq, n32_add, n32_sub, n32_mul, n32_m1, m1_n32, n32_addm1, m1_lt, lt_m1, m1_le, le_m1, m1_add1, ofNat_n32, u2_self, u2_n, mk_I, mk_T, ]
        exact g3 c' hc'
      · intro c' hc' hne
        show _ = n32 (fu (gcp G) c (gcp G c - 1) c')
        by_cases e : c' = c
        · subst e
          rw [fu_at]
          simp (disch := omega) only [n32_of, neg_n32_1, n32_nat, n32_lt, n32_le, n32_eq, n32_add, n32_sub, n32_mul, n32_m1, m1_n32, n32_addm1, m1_lt, lt_m1, m1_le, le_m1, m1_add1, ofNat_n32, u2_self, u2_n, mk_I, mk_T, ]
        · rw [fu_ne e]
          simp (disch := omega) only [n32_of, neg_n32_1, n32_nat, n32_lt, n32_le, n32_eq, n32_add, n32_sub, n32_mul, n32_m1, m1_n32, n32_addm1, m1_lt, lt_m1, m1_le, le_m1, m1_add1, ofNat_n32, u2_self, u2_n, mk_I, mk_T, ]
          exact g4 c' hc' hne
      · intro l' hl'
        simp (disch := omega) only [n32_of, neg_n32_1, n32_nat, n32_lt, n32_le, n32_eq, n32_add, n32_sub, n32_mul, n32_m1, m1_n32, n32_addm1, m1_lt, lt_m1, m1_le, le_m1, m1_add1, ofNat_n32, u2_self, u2_n, mk_I, mk_T, ]
        exact g5 l' hl'
      · intro l' r' hr'
        simp (disch := omega) only [n32_of, neg_n32_1, n32_nat, n32_lt, n32_le, n32_eq, n32_add, n32_sub, n32_mul, n32_m1, m1_n32, n32_addm1, m1_lt, lt_m1, m1_le, le_m1, m1_add1, ofNat_n32, u2_self, u2_n, mk_I, mk_T, ]
        exact g6 l' r' hr'
      · exact eqS_u2 eqS_rfl (by omega)
    · rw [if_neg hp] at h
      with_reducible refine ok_ip (by first | assumption | omega | (simp (disch := omega) only [n32_of, neg_n32_1, n32_nat, n32_lt, n32_le, n32_eq, n32_add, n32_sub, n32_mul, n32_m1, m1_n32, n32_addm1, m1_lt, lt_m1, m1_le, le_m1, m1_add1, ofNat_n32, u2_self, u2_n, mk_I, mk_T, ne_eq, not_true_eq_false, not_false_eq_true, hcl', ep, el]; first | done | omega)) ?_
      repeat (first | with_reducible refine ok_W ?_ | with_reducible refine ok_cO (by first | assumption | omega | (simp (disch := omega) only [n32_of, neg_n32_1, n32_nat, n32_lt, n32_le, n32_eq, n32_add, n32_sub, n32_mul, n32_m1, m1_n32, n32_addm1, m1_lt, lt_m1, m1_le, le_m1, m1_add1, ofNat_n32, u2_self, u2_n, mk_I, mk_T, ne_eq, not_true_eq_false, not_false_eq_true, hcl']; first | done | omega)) ?_ | with_reducible refine ok_ip (by first | assumption | omega | (simp (disch := omega) only [n32_of, neg_n32_1, n32_nat, n32_lt, n32_le, n32_eq, n32_add, n32_sub, n32_mul, n32_m1, m1_n32, n32_addm1, m1_lt, lt_m1, m1_le, le_m1, m1_add1, ofNat_n32, u2_self, u2_n, mk_I, mk_T, ne_eq, not_true_eq_false, not_false_eq_true, hcl']; first | done | omega)) ?_ | with_reducible refine ok_in (by first | assumption | omega | (simp (disch := omega) only [n32_of, neg_n32_1, n32_nat, n32_lt, n32_le, n32_eq, n32_add, n32_sub, n32_mul, n32_m1, m1_n32, n32_addm1, m1_lt, lt_m1, m1_le, le_m1, m1_add1, ofNat_n32, u2_self, u2_n, mk_I, mk_T, ne_eq, not_true_eq_false, not_false_eq_true, hcl']; first | done | omega)) ?_)
      simp (disch := omega) only [n32_of, neg_n32_1, n32_nat, n32_lt, n32_le, n32_eq, n32_add, n32_sub, n32_mul, n32_m1, m1_n32, n32_addm1, m1_lt, lt_m1, m1_le, le_m1, m1_add1, ofNat_n32, u2_self, u2_n, mk_I, mk_T, hcl', el]
      refine h _ ⟨RC_S g1 ?_, ?_, ?_, ?_, ?_, ?_⟩ ?_
      · exact eqS_u2 (eqS_u2 (eqS_u2 (eqS_u2 (eqS_u2 eqS_rfl (by omega)) (by omega)) (by omega)) (by omega)) (by omega)
      · exact NR_S (S := fun a => 278 ≤ a) g2 (eqS_u2 (eqS_u2 (eqS_u2 (eqS_u2 (eqS_u2 eqS_rfl (by omega)) (by omega)) (by omega)) (by omega)) (by omega)) (by omega) (by omega)
      · intro c' hc'
        show _ = oI (fu (gcl G) c none c')
        by_cases e : c' = c
        · subst e
          rw [fu_at]
          simp (disch := omega) only [n32_of, neg_n32_1, n32_nat, n32_lt, n32_le, n32_eq, n32_add, n32_sub, n32_mul, n32_m1, m1_n32, n32_addm1, m1_lt, lt_m1, m1_le, le_m1, m1_add1, ofNat_n32, u2_self, u2_n, mk_I, mk_T, ]
          rfl
        · rw [fu_ne e]
          simp (disch := omega) only [n32_of, neg_n32_1, n32_nat, n32_lt, n32_le, n32_eq, n32_add, n32_sub, n32_mul, n32_m1, m1_n32, n32_addm1, m1_lt, lt_m1, m1_le, le_m1, m1_add1, ofNat_n32, u2_self, u2_n, mk_I, mk_T, ]
          exact g3 c' hc'
      · intro c' hc' hne
        have hne' : fu (gcl G) c none c' ≠ none := hne
        show _ = n32 (gcp G c')
        by_cases e : c' = c
        · subst e
          rw [fu_at] at hne'
          exact absurd rfl hne'
        · rw [fu_ne e] at hne'
          simp (disch := omega) only [n32_of, neg_n32_1, n32_nat, n32_lt, n32_le, n32_eq, n32_add, n32_sub, n32_mul, n32_m1, m1_n32, n32_addm1, m1_lt, lt_m1, m1_le, le_m1, m1_add1, ofNat_n32, u2_self, u2_n, mk_I, mk_T, ]
          exact g4 c' hc' hne'
      · intro l' hl'
        simp (disch := omega) only [n32_of, neg_n32_1, n32_nat, n32_lt, n32_le, n32_eq, n32_add, n32_sub, n32_mul, n32_m1, m1_n32, n32_addm1, m1_lt, lt_m1, m1_le, le_m1, m1_add1, ofNat_n32, u2_self, u2_n, mk_I, mk_T, ]
        exact g5 l' hl'
      · intro l' r' hr'
        have hr2 : fu (gre G) l (some (none, kL K l, gsec G, c)) l' = some r' := hr'
        by_cases e : l' = l
        · subst e
          rw [fu_at] at hr2
          cases hr2
          refine ⟨?_, ?_, ?_, ?_⟩ <;> simp (disch := omega) only [n32_of, neg_n32_1, n32_nat, n32_lt, n32_le, n32_eq, n32_add, n32_sub, n32_mul, n32_m1, m1_n32, n32_addm1, m1_lt, lt_m1, m1_le, le_m1, m1_add1, ofNat_n32, u2_self, u2_n, mk_I, mk_T, ] <;> rfl
        · rw [fu_ne e] at hr2
          simp (disch := omega) only [n32_of, neg_n32_1, n32_nat, n32_lt, n32_le, n32_eq, n32_add, n32_sub, n32_mul, n32_m1, m1_n32, n32_addm1, m1_lt, lt_m1, m1_le, le_m1, m1_add1, ofNat_n32, u2_self, u2_n, mk_I, mk_T, ]
          exact g6 l' r' hr2
      · exact eqS_u2 (eqS_u2 (eqS_u2 (eqS_u2 (eqS_u2 eqS_rfl (by omega)) (by omega)) (by omega)) (by omega)) (by omega)
theorem gStop_sec {c : Nat} {G : SG} : gsec (gStop K c G) = gsec G ∧ gnx (gStop K c G) = gnx G := by
  unfold gStop
  cases gcl G c with
  | none => exact ⟨rfl, rfl⟩
  | some l =>
    simp only
    cases bst (gLim K G l) (gOk K G) (n32 (gcp G c)) (hm (kD K)) with
    | none => exact ⟨rfl, rfl⟩
    | some b => exact ⟨rfl, rfl⟩
theorem gLow_sec {c : Nat} {G : SG} : gsec (gLow K c G) = gsec G ∧ gnx (gLow K c G) = gnx G := by
  unfold gLow
  cases gcl G c with
  | none => exact ⟨rfl, rfl⟩
  | some l =>
    simp only
    split <;> exact ⟨rfl, rfl⟩
theorem gFill_sec {c : Nat} {G : SG} : gsec (gFill K c G) = gsec G ∧ ggo (gFill K c G) = ggo G := by
  unfold gFill
  split <;> exact ⟨rfl, rfl⟩
def pre (s : Nat) : Int32 := if s = 0 then m1 else n32 (s - 1)
theorem pre_1 (s : Nat) : pre s + 1 = n32 s := by
  unfold pre
  by_cases h : s = 0
  · rw [if_pos h, h]
    rfl
  · rw [if_neg h]
    show n32 (s - 1) + n32 1 = n32 s
    rw [n32_add]
    congr 1
    omega
theorem gTick_I {G : SG} (hK : KOK K) (h : GI K G) : GI K (gTick K G) := gFall_I (gLow_I hK (by omega) (gLow_I hK (by omega) (gLow_I hK (by omega) (gStop_I hK (by omega) (gStop_I hK (by omega) (gStop_I hK (by omega) (gRest_I (gFill_I hK (by omega) (gFill_I hK (by omega) (gFill_I hK (by omega) h))))))))))
/-- one second of the reference -/
theorem r_tick {n : Nat} {f : Nat → Nat → Int32} {G : SG} (hN : 10000 ≤ N) (hK : KOK K) (hx1 : x1 = oI (kO K)) (hO : ∀ b, kO K = some b → b < 6) (hG : GI K G) (hR : RS f K G) (hgo : ggo G < hn (kD K)) (hsec : gsec G < 100000) (hn0 : 0 < n) (h : ∀ f', RS f' K (gTick K G) → eqS scS f f' → Ok (H_X12_goes_113 N (n - 1) x1 (n32 (gnx (gTick K G))) (n32 (ggo (gTick K G))) (pre (gsec (gTick K G))) (mk σ f')) Q) : Ok (H_X12_goes_113 N n x1 (n32 (gnx G)) (n32 (ggo G)) (pre (gsec G)) (mk σ f)) Q := by
  obtain ⟨n, rfl⟩ : ∃ m, n = m + 1 := ⟨n - 1, by omega⟩
  rw [Nat.add_sub_cancel] at h
  have n24 := hK.1.1
  have e37 := hR.1.1.1
  rw [H_X12_goes_113]
  with_reducible refine ok_in (by first | assumption | omega | (simp (disch := omega) only [n32_of, neg_n32_1, n32_nat, n32_lt, n32_le, n32_eq, n32_add, n32_sub, n32_mul, n32_m1, m1_n32, n32_addm1, m1_lt, lt_m1, m1_le, le_m1, m1_add1, ofNat_n32, u2_self, u2_n, mk_I, mk_T, ne_eq, not_true_eq_false, not_false_eq_true, e37]; first | done | omega)) ?_
  rw [pre_1]
  have c0 : (0 : Nat) < 3 := by omega
  have c1 : (1 : Nat) < 3 := by omega
  have c2 : (2 : Nat) < 3 := by omega
  refine r_fillc (c := 0) (sec := gsec G) hK hG hR c0 (by omega) (fun f1 hR1 he1 => ?_)
  have hG1 := gFill_I hK c0 hG
  refine r_fillc (c := 1) (sec := gsec G) hK hG1 hR1 c1 (by omega) (fun f2 hR2 he2 => ?_)
  have hG2 := gFill_I hK c1 hG1
  refine r_fillc (c := 2) (sec := gsec G) hK hG2 hR2 c2 (by omega) (fun f3 hR3 he3 => ?_)
  have hG3 := gFill_I hK c2 hG2
  have s3 : gsec (gF3 K G) = gsec G ∧ ggo (gF3 K G) = ggo G := by
    unfold gF3
    rw [gFill_sec.1, gFill_sec.1, gFill_sec.1, gFill_sec.2, gFill_sec.2, gFill_sec.2]
    exact ⟨rfl, rfl⟩
  rw [show N - 1 - 1 - 1 = (N - 4) + 1 by omega, H_X12_goes_127]
  with_reducible refine ok_ip (by first | assumption | omega | (simp (disch := omega) only [n32_of, neg_n32_1, n32_nat, n32_lt, n32_le, n32_eq, n32_add, n32_sub, n32_mul, n32_m1, m1_n32, n32_addm1, m1_lt, lt_m1, m1_le, le_m1, m1_add1, ofNat_n32, u2_self, u2_n, mk_I, mk_T, ne_eq, not_true_eq_false, not_false_eq_true, ]; first | done | omega)) ?_
  have hG3' : GI K (gRest (gF3 K G)) := gRest_I hG3
  refine r_rest hK hR3 hx1 hO (fun f4 hR4 hH4 he4 => ?_) N 0 f3 (by omega) (by omega) (fun _ _ _ => rfl) (fun b' hb' => absurd hb' (Nat.not_lt_zero _))
  have hR4' : RS f4 K (gRest (gF3 K G)) := hR4
  have hH4' : HS f4 K (gRest (gF3 K G)) := hH4
  have sr : gsec (gRest (gF3 K G)) = gsec G := s3.1
  have gr : ggo (gRest (gF3 K G)) = ggo G := s3.2
  rw [← gr, ← sr]
  refine r_stopc (c := 0) hN hK hG3' hR4' hH4' c0 (by omega) (by omega) (fun f5 hR5 hH5 he5 => ?_)
  have hG5 := gStop_I hK c0 hG3'
  rw [← (gStop_sec (K := K) (c := 0) (G := gRest (gF3 K G))).1]
  refine r_stopc (c := 1) hN hK hG5 hR5 hH5 c1 (by omega) (by rw [gStop_sec.1]; omega) (fun f6 hR6 hH6 he6 => ?_)
  have hG6 := gStop_I hK c1 hG5
  rw [← (gStop_sec (K := K) (c := 1) (G := gStop K 0 (gRest (gF3 K G)))).1]
  refine r_stopc (c := 2) hN hK hG6 hR6 hH6 c2 (by omega) (by rw [gStop_sec.1, gStop_sec.1]; omega) (fun f7 hR7 hH7 he7 => ?_)
  have hG7 := gStop_I hK c2 hG6
  rw [← (gStop_sec (K := K) (c := 2) (G := gStop K 1 (gStop K 0 (gRest (gF3 K G))))).1]
  rw [show N - 1 - 1 - 1 = (N - 4) + 1 by omega, H_X12_goes_222]
  with_reducible refine ok_ip (by first | assumption | omega | (simp (disch := omega) only [n32_of, neg_n32_1, n32_nat, n32_lt, n32_le, n32_eq, n32_add, n32_sub, n32_mul, n32_m1, m1_n32, n32_addm1, m1_lt, lt_m1, m1_le, le_m1, m1_add1, ofNat_n32, u2_self, u2_n, mk_I, mk_T, ne_eq, not_true_eq_false, not_false_eq_true, ]; first | done | omega)) ?_
  have hG7' : GI K (gS3 K (gRest (gF3 K G))) := hG7
  have hR7' : RS f7 K (gS3 K (gRest (gF3 K G))) := hR7
  have s7 : gsec (gS3 K (gRest (gF3 K G))) = gsec G := by
    unfold gS3
    rw [gStop_sec.1, gStop_sec.1, gStop_sec.1, sr]
  refine r_lowc (c := 0) (G := gS3 K (gRest (gF3 K G))) hK hG7' hR7' c0 (by omega) (by omega) (fun f8 hR8 he8 => ?_)
  have hG8 := gLow_I hK c0 hG7'
  rw [← (gLow_sec (K := K) (c := 0) (G := gS3 K (gRest (gF3 K G)))).1]
  refine r_lowc (c := 1) hK hG8 hR8 c1 (by omega) (by rw [gLow_sec.1]; omega) (fun f9 hR9 he9 => ?_)
  have hG9 := gLow_I hK c1 hG8
  rw [← (gLow_sec (K := K) (c := 1) (G := gLow K 0 (gS3 K (gRest (gF3 K G))))).1]
  refine r_lowc (c := 2) hK hG9 hR9 c2 (by omega) (by rw [gLow_sec.1, gLow_sec.1]; omega) (fun f10 hR10 he10 => ?_)
  rw [show N - 1 - 1 - 1 = (N - 4) + 1 by omega, H_X12_goes_262]
  with_reducible refine ok_ip (by first | assumption | omega | (simp (disch := omega) only [n32_of, neg_n32_1, n32_nat, n32_lt, n32_le, n32_eq, n32_add, n32_sub, n32_mul, n32_m1, m1_n32, n32_addm1, m1_lt, lt_m1, m1_le, le_m1, m1_add1, ofNat_n32, u2_self, u2_n, mk_I, mk_T, ne_eq, not_true_eq_false, not_false_eq_true, ]; first | done | omega)) ?_
  have sT : gsec (gTick K G) = gsec G + 1 := by
    show gsec (gL3 K (gS3 K (gRest (gF3 K G)))) + 1 = _
    unfold gL3
    rw [gLow_sec.1, gLow_sec.1, gLow_sec.1, s7]
  have hfin := h f10 hR10 (eqS_tr he1 (eqS_tr he2 (eqS_tr he3 (eqS_tr he4 (eqS_tr he5 (eqS_tr he6 (eqS_tr he7 (eqS_tr he8 (eqS_tr he9 he10)))))))))
  have ep : pre (gsec (gTick K G)) = n32 (gsec G) := by
    rw [sT]
    unfold pre
    rw [if_neg (by omega), Nat.add_sub_cancel]
  have en : gnx (gTick K G) = gnx (gF3 K G) := by
    show gnx (gL3 K (gS3 K (gRest (gF3 K G)))) = _
    unfold gL3 gS3
    rw [gLow_sec.2, gLow_sec.2, gLow_sec.2, gStop_sec.2, gStop_sec.2, gStop_sec.2]
    rfl
  rw [ep, en] at hfin
  have s9 : gsec (gLow K 1 (gLow K 0 (gS3 K (gRest (gF3 K G))))) = gsec G := by rw [gLow_sec.1, gLow_sec.1, s7]
  rw [s9]
  exact hfin
end RSALE2
