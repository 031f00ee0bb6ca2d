/-! ===== the reference reads one E ===== -/
def exOK (b : Nat → Nat) (len pg pt : Nat) (C : CX) (O : Nat × Nat × List Ru) (k0 : Nat) (f : pln) : Prop := ∃ k c ws, k0 < k ∧ PI k 2 pt C c ws ∧ opn ws = 0 ∧ (∀ j, j < k → tTk b len j ≠ 27) ∧ run (tTk b len) (tPl b len) (401 - k) k 2 pt C c ws = O ∧ ¬ (17 ≤ tTk b len k ∧ tTk b len k ≤ 19) ∧ rG f k 0 ∧ rZ pg f (rCd C (c ++ ws)) []
def exQ (b : Nat → Nat) (len pg pt : Nat) (C : CX) (O : Nat × Nat × List Ru) (k0 : Nat) (σ : aSt) (f0 : pln) (σ' : aSt) : Prop := ∃ f', σ' = mk σ f' ∧ eqE pg f0 f' ∧ (RF O f' ∨ exOK b len pg pt C O k0 f')
section REX
variable {N pg len pt k0 : Nat} {b : Nat → Nat} {σ : aSt} {C : CX} {O : Nat × Nat × List Ru} {f0 : pln}
theorem r_tok {f : pln} {k : Nat} (hT : TR b len f) (hk : k ≤ 400) (hj : ∀ j, j < k → tTk b len j ≠ 27) : ∃ x, f 238 k = n32 x ∧ f 239 k = n32 (tPl b len k) ∧ (32 ≤ tTk b len k → f 240 k = n32 (tTk b len k - 32)) ∧ (x ≤ 35 ∧ (x = 0 ↔ tTk b len k = 27) ∧ (x = 2 ↔ 32 ≤ tTk b len k) ∧ (x = 4 ↔ tTk b len k = 16) ∧ (x = 6 ↔ tTk b len k = 24) ∧ (x = 7 ↔ tTk b len k = 25) ∧ (x = 8 ↔ tTk b len k = 17) ∧ (x = 9 ↔ tTk b len k = 18) ∧ (x = 10 ↔ tTk b len k = 19) ∧ (tTk b len k < 16 ↔ 20 ≤ x) ∧ (tTk b len k < 16 → x = 20 + tTk b len k) ∧ (20 ≤ tTk b len k ∧ tTk b len k ≤ 23 ↔ 11 ≤ x ∧ x ≤ 14) ∧ (20 ≤ tTk b len k ∧ tTk b len k ≤ 23 → x + 9 = tTk b len k)) := by
  obtain ⟨x, h1, h2, h3, h4⟩ := hT k hk hj
  have := (tTk_lt b len k).1
  exact ⟨x, h2, h3, h4, kd_iff h1 (by omega)⟩
theorem PI_r {k st : Nat} {c ws : List Nat} (h : PI k st pt C c ws) (hs : st ≠ 0) : (rCd C c).length + ws.length ≤ k ∧ ws.length ≤ 20 ∧ k ≤ 400 ∧ (∀ x ∈ ws, x = 17 ∨ x = 18 ∨ x = 19 ∨ x = 24) ∧ opn ws ≤ 6 ∧ shp ws := ⟨Nat.le_trans rTot h.2.2.2.2, (PE_len (h.2.2.2.1 hs)).1, h.1, shp_mem _ (h.2.2.2.1 hs).1.1, (h.2.2.2.1 hs).1.2, (h.2.2.2.1 hs).1.1⟩
theorem RF_2 {f : pln} {k p q : Nat} (h239 : f 239 k = n32 p) (hq : q = 1 ∨ q = 2) (hO : O = (q, p, [])) : RF O (u2 (u2 f 235 13 (n32 q)) 235 14 (f 239 k)) := by
  subst hO
  exact ⟨by rw [u2_n (by omega), u2_self], hq, by rw [u2_self]; exact h239⟩
theorem eqE_f {f : pln} {q v : Int32} : eqE pg f (u2 (u2 f 235 13 q) 235 14 v) := eqE_tr (eqE_u (by omega)) (eqE_u (by omega))
theorem r_299 {f : pln} {Z ws : List Nat} {Q : Unit → aSt → Prop} (hN : 100 ≤ N) (hpg : pg < 14) (hZ : rZ pg f Z ws) (hw : ws.length ≤ 40) (hl : Z.length + ws.length ≤ 450) (hx : ∀ x ∈ ws, x = 17 ∨ x = 18 ∨ x = 19 ∨ x = 24) (K : ∀ f', rZ pg f' (Z ++ ppA 1 ws) (ppB 1 ws) → eqE pg f f' → (∀ k, k ≠ 32 → k ≠ 36 → f' 235 k = f 235 k) → Q () (mk σ f')) : Ok (J_X12_expression_299 N (mk σ f)) Q := by
  unfold J_X12_expression_299 F_X12_comesOut
  refine ok_oB (ok_mono (r_come (tm := 0) (r := 1) hpg (Or.inl ⟨rfl, rfl⟩) N ws Z f (by omega) hZ hw hl hx) (fun u σ' hq => ?_))
  obtain ⟨f', rfl, h1, h2, h3⟩ := hq
  exact ok_some (K f' h1 h2 h3)
theorem r_299F {f : pln} {Z ws : List Nat} (hN : 100 ≤ N) (hpg : pg < 14) (hZ : rZ pg f Z ws) (hw : ws.length ≤ 40) (hl : Z.length + ws.length ≤ 450) (hx : ∀ x ∈ ws, x = 17 ∨ x = 18 ∨ x = 19 ∨ x = 24) (hF : RF O f) (he : eqE pg f0 f) : Ok (J_X12_expression_299 N (mk σ f)) (fun _ σ' => exQ b len pg pt C O k0 σ f0 σ') :=
  r_299 hN hpg hZ hw hl hx (fun f' _ h2 h3 => ⟨f', rfl, eqE_tr he h2, Or.inl ⟨(h3 _ (by omega) (by omega)).trans hF.1, hF.2.1, (h3 _ (by omega) (by omega)).trans hF.2.2⟩⟩)
theorem r_249F {f : pln} {Z ws : List Nat} {k12 : Int32 → Int32 → aSt → Option (Unit × aSt)} (hN : 100 ≤ N) (hpg : pg < 14) (hZ : rZ pg f Z ws) (hw : ws.length ≤ 40) (hl : Z.length + ws.length ≤ 450) (hx : ∀ x ∈ ws, x = 17 ∨ x = 18 ∨ x = 19 ∨ x = 24) (hF : RF O f) (he : eqE pg f0 f) : Ok (J_X12_expression_249 N k12 (n32 0) (mk σ f)) (fun _ σ' => exQ b len pg pt C O k0 σ f0 σ') := by
  have fin := r_299F (k0 := k0) (b := b) (len := len) (pt := pt) (C := C) (σ := σ) hN hpg hZ hw hl hx hF he
  unfold J_X12_expression_249 J_X12_expression_281
  rw [r_isF hF.1 hF.2.1]
  refine ok_oB (ok_some ?_)
  refine ok_in (fun q => q rfl) ?_
  rw [r_isF hF.1 hF.2.1]
  refine ok_oB (ok_some ?_)
  refine ok_in (fun q => q rfl) ?_
  rw [r_isF hF.1 hF.2.1]
  refine ok_oB (ok_some ?_)
  refine ok_ip rfl ?_
  refine ok_in (fun q => q rfl) ?_
  refine ok_if (fun _ => fin) (fun _ => ?_)
  rw [r_failF hF.1 hF.2.1]
  exact ok_oB (ok_some fin)
theorem r_200F {f : pln} {n : Nat} {Z ws : List Nat} {k12 : Int32 → Int32 → aSt → Option (Unit × aSt)} (hN : 100 ≤ N) (hpg : pg < 14) (hZ : rZ pg f Z ws) (hw : ws.length ≤ 40) (hl : Z.length + ws.length ≤ 450) (hx : ∀ x ∈ ws, x = 17 ∨ x = 18 ∨ x = 19 ∨ x = 24) (hF : RF O f) (he : eqE pg f0 f) : Ok (H_X12_expression_200 N k12 (n + 1) (n32 0) (mk σ f)) (fun _ σ' => exQ b len pg pt C O k0 σ f0 σ') := by
  rw [H_X12_expression_200, r_isF hF.1 hF.2.1]
  refine ok_oB (ok_some ?_)
  refine ok_ip rfl ?_
  exact r_249F hN hpg hZ hw hl hx hF he
/-- behind a unit that no ) follows -/
theorem r_249 {k km : Nat} {c ws : List Nat} {f : pln} {k12 : Int32 → Int32 → aSt → Option (Unit × aSt)} (hN : 1000 ≤ N) (hpg : pg < 14) (hTR : TR b len f0) (K3 : ∀ k c ws f, km < k → PI k 1 pt C c ws → (∀ j, j < k → tTk b len j ≠ 27) → run (tTk b len) (tPl b len) (401 - k) k 1 pt C c ws = O → eqE pg f0 f → rG f k (opn ws) → rZ pg f (rCd C c) ws → Ok (k12 (n32 0) (n32 1) (mk σ f)) (fun _ σ' => exQ b len pg pt C O k0 σ f0 σ')) (K4 : ∀ f, RF O f → eqE pg f0 f → Ok (k12 (n32 0) (n32 1) (mk σ f)) (fun _ σ' => exQ b len pg pt C O k0 σ f0 σ')) (hk0 : k0 ≤ km) (hkm : km < k) (hP : PI k 2 pt C c ws) (hj : ∀ j, j < k → tTk b len j ≠ 27) (hrun : run (tTk b len) (tPl b len) (401 - k) k 2 pt C c ws = O) (he : eqE pg f0 f) (hG : rG f k (opn ws)) (hZ : rZ pg f (rCd C c) ws) (hn : ¬ (tTk b len k = 25 ∧ 0 < opn ws)) : Ok (J_X12_expression_249 N k12 (n32 0) (mk σ f)) (fun _ σ' => exQ b len pg pt C O k0 σ f0 σ') := by
  obtain ⟨b1, b2, b3, b4, b5, b6⟩ := PI_r hP (by omega)
  obtain ⟨g11, g12, g13⟩ := hG
  obtain ⟨x, x1, x2, x3, x4, x5, x6, x7, x8, x9, x10, x11, x12, x13, x14, x15, x16⟩ := r_tok (TR_E hTR he) b3 hj
  have tl := (tTk_lt b len k)
  rw [show 401 - k = (401 - (k + 1)) + 1 by omega] at hrun
  -- a sign
  have op : ∀ tm r, ((tm = 0 ∧ r = 1) ∨ (tm = 1 ∧ r = 5)) → (ppA r ws = ppA (rkx (tTk b len k)) ws ∧ ppB r ws = ppB (rkx (tTk b len k)) ws) → (17 ≤ tTk b len k ∧ tTk b len k ≤ 19) → x = rkk (tTk b len k) → Ok (J_X12_expression_329 N k12 (n32 0) (n32 1) (n32 x) (n32 tm) (mk σ f)) (fun _ σ' => exQ b len pg pt C O k0 σ f0 σ') := by
    intro tm r htm hpp h19 hxr
    unfold J_X12_expression_329 F_X12_comesOut
    refine ok_oB (ok_mono (r_come (tm := tm) (r := r) hpg htm N ws (rCd C c) f (by omega) hZ (by omega) (by omega) b4) (fun u σ' hq => ?_))
    obtain ⟨f1, rfl, h1, h2, h3⟩ := hq
    rw [hpp.1, hpp.2, ← rCd_app] at h1
    have hlB := pp_len (rkx (tTk b len k)) ws
    have h36 := h1.2.1
    have f11 : f1 235 11 = n32 k := (h3 _ (by omega) (by omega)).trans g11
    have f12 : f1 235 12 = n32 (opn ws) := (h3 _ (by omega) (by omega)).trans g12
    have f13 : f1 235 13 = n32 0 := (h3 _ (by omega) (by omega)).trans g13
    have e1 := eqE_tr he h2
    repeat (first | with_reducible refine ok_W ?_ | with_reducible refine ok_cO (by first | assumption | omega | (simp (disch := omega) only [n32_of, neg_n32_1, n32_nat, n32_lt, n32_le, n32_eq, n32_add, n32_sub, n32_mul, n32_m1, m1_n32, n32_addm1, m1_lt, lt_m1, m1_le, le_m1, m1_add1, ofNat_n32, u2_self, u2_n, mk_I, mk_T, ne_eq, not_true_eq_false, not_false_eq_true, h36]; first | done | omega)) ?_ | with_reducible refine ok_ip (by first | assumption | omega | (simp (disch := omega) only [n32_of, neg_n32_1, n32_nat, n32_lt, n32_le, n32_eq, n32_add, n32_sub, n32_mul, n32_m1, m1_n32, n32_addm1, m1_lt, lt_m1, m1_le, le_m1, m1_add1, ofNat_n32, u2_self, u2_n, mk_I, mk_T, ne_eq, not_true_eq_false, not_false_eq_true, h36]; first | done | omega)) ?_ | with_reducible refine ok_in (by first | assumption | omega | (simp (disch := omega) only [n32_of, neg_n32_1, n32_nat, n32_lt, n32_le, n32_eq, n32_add, n32_sub, n32_mul, n32_m1, m1_n32, n32_addm1, m1_lt, lt_m1, m1_le, le_m1, m1_add1, ofNat_n32, u2_self, u2_n, mk_I, mk_T, ne_eq, not_true_eq_false, not_false_eq_true, h36]; first | done | omega)) ?_)
    simp (disch := omega) only [n32_of, neg_n32_1, n32_nat, n32_lt, n32_le, n32_eq, n32_add, n32_sub, n32_mul, n32_m1, m1_n32, n32_addm1, m1_lt, lt_m1, m1_le, le_m1, m1_add1, ofNat_n32, u2_self, u2_n, mk_I, mk_T, h36]
    rw [hxr]
    have hZ2 := rZ_push (x := tTk b len k) h1
    have e2 : eqE pg f0 (u2 (u2 f1 258 (ppB (rkx (tTk b len k)) ws).length (n32 (rkk (tTk b len k)))) 235 36 (n32 ((ppB (rkx (tTk b len k)) ws).length + 1))) := eqE_tr e1 (eqE_tr eqE_w (eqE_u (by omega)))
    generalize hf2 : u2 (u2 f1 258 (ppB (rkx (tTk b len k)) ws).length (n32 (rkk (tTk b len k)))) 235 36 (n32 ((ppB (rkx (tTk b len k)) ws).length + 1)) = f2 at hZ2 e2
    have k11 : f2 235 11 = n32 k := by rw [← hf2, u2_n (by omega), u2_n (by omega)]; exact f11
    have k12' : f2 235 12 = n32 (opn ws) := by rw [← hf2, u2_n (by omega), u2_n (by omega)]; exact f12
    have k13 : f2 235 13 = n32 0 := by rw [← hf2, u2_n (by omega), u2_n (by omega)]; exact f13
    have io := (pp_shp (r := rkx (tTk b len k)) (by rcases (show tTk b len k = 17 ∨ tTk b len k = 18 ∨ tTk b len k = 19 by omega) with e | e | e <;> rw [e] <;> decide) ws b6).2.1
    by_cases hk : k < 400
    · rw [r_next k11 hk]
      refine ok_oB (ok_some ?_)
      rw [run_op h19.1 h19.2 hk] at hrun
      refine K3 (k + 1) _ _ _ (by omega) (PI_op hP hk (by omega)) (fun j hj' => ?_) hrun (eqE_tr e2 (eqE_u (by omega))) ⟨u2_self, ?_, ?_⟩ (rZ_cg hZ2 (u2_n (by omega)) (u2_n (by omega)) (fun a j _ _ => u2_n (by omega)))
      · by_cases ej : j = k
        · rw [ej]; omega
        · exact hj j (by omega)
      · rw [u2_n (by omega), k12', opn, if_neg (by omega), io]
      · rw [u2_n (by omega)]; exact k13
    · have ek : k = 400 := by omega
      subst ek
      rw [r_next4 k13 k11]
      refine ok_oB (ok_some ?_)
      rw [run_room (by omega) (by omega) (by omega)] at hrun
      have e239 : f2 239 400 = n32 (tPl b len 400) := (e2 _ _ (by omega) (by omega) (by omega)).trans (((he _ _ (by omega) (by omega) (by omega)).symm).trans x2)
      exact K4 _ (RF_2 e239 (Or.inr rfl) hrun.symm) (eqE_tr e2 eqE_f)
  -- no sign
  have no : ¬ (17 ≤ tTk b len k ∧ tTk b len k ≤ 19) → Ok (J_X12_expression_281 N k12 (n32 0) 0 (mk σ f)) (fun _ σ' => exQ b len pg pt C O k0 σ f0 σ') := by
    intro h19
    unfold J_X12_expression_281
    refine ok_in (fun q => q rfl) ?_
    by_cases ho : opn ws = 0
    · with_reducible refine ok_ip (by first | assumption | omega | (simp (disch := omega) only [n32_of, neg_n32_1, n32_nat, n32_lt, n32_le, n32_eq, n32_add, n32_sub, n32_mul, n32_m1, m1_n32, n32_addm1, m1_lt, lt_m1, m1_le, le_m1, m1_add1, ofNat_n32, u2_self, u2_n, mk_I, mk_T, ne_eq, not_true_eq_false, not_false_eq_true, g12]; first | done | omega)) ?_
      refine r_299 (by omega) hpg hZ (by omega) (by omega) b4 (fun f' h1 h2 h3 => ⟨f', rfl, eqE_tr he h2, Or.inr ⟨k, c, ws, by omega, hP, ho, hj, ?_, h19, ⟨(h3 _ (by omega) (by omega)).trans g11, ?_, (h3 _ (by omega) (by omega)).trans g13⟩, ?_⟩⟩)
      · rw [show 401 - k = (401 - (k + 1)) + 1 by omega]
        exact hrun
      · rw [h3 _ (by omega) (by omega), g12, ho]
      · obtain ⟨p1, p2⟩ := pp_all (r := 1) (by omega) ws b6 ho
        rw [p1, p2, ← rCd_app] at h1
        exact h1
    · with_reducible refine ok_in (by first | assumption | omega | (simp (disch := omega) only [n32_of, neg_n32_1, n32_nat, n32_lt, n32_le, n32_eq, n32_add, n32_sub, n32_mul, n32_m1, m1_n32, n32_addm1, m1_lt, lt_m1, m1_le, le_m1, m1_add1, ofNat_n32, u2_self, u2_n, mk_I, mk_T, ne_eq, not_true_eq_false, not_false_eq_true, g12]; first | done | omega)) ?_
      have hbad : ¬ fit 2 pt (opn ws) (tTk b len k) := by omega
      rw [run_bad hbad] at hrun
      rw [show (1 : Int32) = n32 1 from rfl, r_fail g13 g11 b3]
      refine ok_oB (ok_some ?_)
      exact r_299F (by omega) hpg (rZ_cg hZ (by rw [u2_n (by omega), u2_n (by omega)]) (by rw [u2_n (by omega), u2_n (by omega)]) (fun a j _ _ => by rw [u2_n (by omega), u2_n (by omega)])) (by omega) (by omega) b4 (RF_2 x2 (Or.inl rfl) hrun.symm) (eqE_tr he eqE_f)
  have yes : (17 ≤ tTk b len k ∧ tTk b len k ≤ 19) → Ok (J_X12_expression_276 N k12 (n32 0) (mk σ f)) (fun _ σ' => exQ b len pg pt C O k0 σ f0 σ') := by
    intro h19
    unfold J_X12_expression_276 J_X12_expression_281
    refine ok_ip (by decide) ?_
    with_reducible refine ok_cO (by first | assumption | omega | (simp (disch := omega) only [n32_of, neg_n32_1, n32_nat, n32_lt, n32_le, n32_eq, n32_add, n32_sub, n32_mul, n32_m1, m1_n32, n32_addm1, m1_lt, lt_m1, m1_le, le_m1, m1_add1, ofNat_n32, u2_self, u2_n, mk_I, mk_T, ne_eq, not_true_eq_false, not_false_eq_true, g11]; first | done | omega)) ?_
    simp (disch := omega) only [n32_of, neg_n32_1, n32_nat, n32_lt, n32_le, n32_eq, n32_add, n32_sub, n32_mul, n32_m1, m1_n32, n32_addm1, m1_lt, lt_m1, m1_le, le_m1, m1_add1, ofNat_n32, u2_self, u2_n, mk_I, mk_T, g11, x1]
    obtain ⟨p1, p2⟩ := pp_41 ws b6
    by_cases h10 : tTk b len k = 19
    · with_reducible refine ok_in (by first | assumption | omega | (simp (disch := omega) only [n32_of, neg_n32_1, n32_nat, n32_lt, n32_le, n32_eq, n32_add, n32_sub, n32_mul, n32_m1, m1_n32, n32_addm1, m1_lt, lt_m1, m1_le, le_m1, m1_add1, ofNat_n32, u2_self, u2_n, mk_I, mk_T, ne_eq, not_true_eq_false, not_false_eq_true, ]; first | done | omega)) ?_
      refine op 1 5 (Or.inr ⟨rfl, rfl⟩) ?_ h19 ?_
      · rw [h10]; exact ⟨rfl, rfl⟩
      · rw [h10]; exact x12.mpr h10
    · with_reducible refine ok_ip (by first | assumption | omega | (simp (disch := omega) only [n32_of, neg_n32_1, n32_nat, n32_lt, n32_le, n32_eq, n32_add, n32_sub, n32_mul, n32_m1, m1_n32, n32_addm1, m1_lt, lt_m1, m1_le, le_m1, m1_add1, ofNat_n32, u2_self, u2_n, mk_I, mk_T, ne_eq, not_true_eq_false, not_false_eq_true, ]; first | done | omega)) ?_
      refine op 0 1 (Or.inl ⟨rfl, rfl⟩) ?_ h19 ?_
      · have er : rkx (tTk b len k) = 4 := by rcases (show tTk b len k = 17 ∨ tTk b len k = 18 by omega) with e | e <;> rw [e] <;> rfl
        rw [er]
        exact ⟨p1.symm, p2.symm⟩
      · rcases (show tTk b len k = 17 ∨ tTk b len k = 18 by omega) with e | e
        · rw [e]; exact x10.mpr e
        · rw [e]; exact x11.mpr e
  unfold J_X12_expression_249
  rw [show (8 : Int32) = n32 8 from rfl, r_is g13 g11 b3 x1 x4 (by omega)]
  refine ok_oB (ok_some ?_)
  refine ok_if (fun hc => yes (by rw [bI_n0] at hc; omega)) (fun n1 => ?_)
  rw [show (9 : Int32) = n32 9 from rfl, r_is g13 g11 b3 x1 x4 (by omega)]
  refine ok_oB (ok_some ?_)
  refine ok_if (fun hc => yes (by rw [bI_n0] at hc; omega)) (fun n2 => ?_)
  rw [show (10 : Int32) = n32 10 from rfl, r_is g13 g11 b3 x1 x4 (by omega)]
  refine ok_oB (ok_some ?_)
  refine ok_if (fun hc => no ?_) (fun n3 => yes ?_)
  · rw [bI_n0] at n1 n2
    rw [bI_0] at hc
    omega
  · rw [bI_0] at n3
    omega
theorem r_200 {km : Nat} {k12 : Int32 → Int32 → aSt → Option (Unit × aSt)} (hN : 1000 ≤ N) (hpg : pg < 14) (hTR : TR b len f0) (K3 : ∀ k c ws f, km < k → PI k 1 pt C c ws → (∀ j, j < k → tTk b len j ≠ 27) → run (tTk b len) (tPl b len) (401 - k) k 1 pt C c ws = O → eqE pg f0 f → rG f k (opn ws) → rZ pg f (rCd C c) ws → Ok (k12 (n32 0) (n32 1) (mk σ f)) (fun _ σ' => exQ b len pg pt C O k0 σ f0 σ')) (K4 : ∀ f, RF O f → eqE pg f0 f → Ok (k12 (n32 0) (n32 1) (mk σ f)) (fun _ σ' => exQ b len pg pt C O k0 σ f0 σ')) (hk0 : k0 ≤ km) : ∀ (n k : Nat) (c ws : List Nat) (f : pln), 402 - k ≤ n → km < k → PI k 2 pt C c ws → (∀ j, j < k → tTk b len j ≠ 27) → run (tTk b len) (tPl b len) (401 - k) k 2 pt C c ws = O → eqE pg f0 f → rG f k (opn ws) → rZ pg f (rCd C c) ws → Ok (H_X12_expression_200 N k12 n (n32 0) (mk σ f)) (fun _ σ' => exQ b len pg pt C O k0 σ f0 σ') := by
  intro n
  induction n with
  | zero => intro k c ws f hn hkm hP; have := hP.1; omega
  | succ n ih =>
    intro k c ws f hn hkm hP hj hrun he hG hZ
    obtain ⟨b1, b2, b3, b4, b5, b6⟩ := PI_r hP (by omega)
    obtain ⟨x, x1, x2, x3, x4, x5, x6, x7, x8, x9, x10, x11, x12, x13, x14, x15, x16⟩ := r_tok (TR_E hTR he) b3 hj
    have hall := r_249 (k := k) (c := c) (ws := ws) (f := f) hN hpg hTR K3 K4 hk0 hkm hP hj hrun he hG hZ
    obtain ⟨g11, g12, g13⟩ := hG
    rw [H_X12_expression_200, show (7 : Int32) = n32 7 from rfl, r_is g13 g11 b3 x1 x4 (by omega)]
    refine ok_oB (ok_some ?_)
    by_cases h25 : tTk b len k = 25
    · refine ok_in (yz (x9.mpr h25)) ?_
      by_cases ho : 0 < opn ws
      · with_reducible refine ok_in (by first | assumption | omega | (simp (disch := omega) only [n32_of, neg_n32_1, n32_nat, n32_lt, n32_le, n32_eq, n32_add, n32_sub, n32_mul, n32_m1, m1_n32, n32_addm1, m1_lt, lt_m1, m1_le, le_m1, m1_add1, ofNat_n32, u2_self, u2_n, mk_I, mk_T, ne_eq, not_true_eq_false, not_false_eq_true, g12]; first | done | omega)) ?_
        rw [show 401 - k = (401 - (k + 1)) + 1 by omega] at hrun
        unfold F_X12_comesOut
        refine ok_oB (ok_mono (r_come (tm := 0) (r := 1) hpg (Or.inl ⟨rfl, rfl⟩) N ws (rCd C c) f (by omega) hZ (by omega) (by omega) b4) (fun u σ' hq => ?_))
        obtain ⟨f1, rfl, h1, h2, h3⟩ := hq
        obtain ⟨s, e1, e2, -⟩ := PE_close (hP.2.2.2.1 (by omega)) ho
        have hlB := pp_len 1 ws
        rw [e1] at h1 hlB
        rw [List.length_cons] at hlB
        rw [← rCd_app] at h1
        have h36 := h1.2.1
        rw [List.length_cons] at h36
        have f11 : f1 235 11 = n32 k := (h3 _ (by omega) (by omega)).trans g11
        have f12 : f1 235 12 = n32 (opn ws) := (h3 _ (by omega) (by omega)).trans g12
        have f13 : f1 235 13 = n32 0 := (h3 _ (by omega) (by omega)).trans g13
        repeat (first | with_reducible refine ok_W ?_ | with_reducible refine ok_cO (by first | assumption | omega | (simp (disch := omega) only [n32_of, neg_n32_1, n32_nat, n32_lt, n32_le, n32_eq, n32_add, n32_sub, n32_mul, n32_m1, m1_n32, n32_addm1, m1_lt, lt_m1, m1_le, le_m1, m1_add1, ofNat_n32, u2_self, u2_n, mk_I, mk_T, ne_eq, not_true_eq_false, not_false_eq_true, ]; first | done | omega)) ?_ | with_reducible refine ok_ip (by first | assumption | omega | (simp (disch := omega) only [n32_of, neg_n32_1, n32_nat, n32_lt, n32_le, n32_eq, n32_add, n32_sub, n32_mul, n32_m1, m1_n32, n32_addm1, m1_lt, lt_m1, m1_le, le_m1, m1_add1, ofNat_n32, u2_self, u2_n, mk_I, mk_T, ne_eq, not_true_eq_false, not_false_eq_true, ]; first | done | omega)) ?_ | with_reducible refine ok_in (by first | assumption | omega | (simp (disch := omega) only [n32_of, neg_n32_1, n32_nat, n32_lt, n32_le, n32_eq, n32_add, n32_sub, n32_mul, n32_m1, m1_n32, n32_addm1, m1_lt, lt_m1, m1_le, le_m1, m1_add1, ofNat_n32, u2_self, u2_n, mk_I, mk_T, ne_eq, not_true_eq_false, not_false_eq_true, ]; first | done | omega)) ?_)
        simp (disch := omega) only [n32_of, neg_n32_1, n32_nat, n32_lt, n32_le, n32_eq, n32_add, n32_sub, n32_mul, n32_m1, m1_n32, n32_addm1, m1_lt, lt_m1, m1_le, le_m1, m1_add1, ofNat_n32, u2_self, u2_n, mk_I, mk_T, h36, Nat.add_sub_cancel, f12]
        rw [show opn ws - 1 = opn s by omega]
        have ee : eqE pg f0 (u2 (u2 f1 235 36 (n32 s.length)) 235 12 (n32 (opn s))) := eqE_tr (eqE_tr he h2) (eqE_tr (eqE_u (by omega)) (eqE_u (by omega)))
        have hZ2 : rZ pg (u2 (u2 f1 235 36 (n32 s.length)) 235 12 (n32 (opn s))) (rCd C (c ++ ppA 1 ws)) s := by
          obtain ⟨⟨z1, z2⟩, z3, z4⟩ := h1
          refine ⟨⟨?_, segR_cg z2 (fun j => ?_) (fun j => ?_)⟩, ?_, wst_cg _ z4.2 (fun j _ => ?_)⟩
          · rw [u2_n (by omega), u2_n (by omega)]; exact z1
          · rw [u2_n (by omega), u2_n (by omega)]
          · rw [u2_n (by omega), u2_n (by omega)]
          · rw [u2_n (by omega), u2_self]
          · rw [u2_n (by omega), u2_n (by omega)]
        have k12' : u2 (u2 f1 235 36 (n32 s.length)) 235 12 (n32 (opn s)) 235 12 = n32 (opn s) := u2_self
        have k11 : u2 (u2 f1 235 36 (n32 s.length)) 235 12 (n32 (opn s)) 235 11 = n32 k := by rw [u2_n (by omega), u2_n (by omega)]; exact f11
        have k13 : u2 (u2 f1 235 36 (n32 s.length)) 235 12 (n32 (opn s)) 235 13 = n32 0 := by rw [u2_n (by omega), u2_n (by omega)]; exact f13
        generalize u2 (u2 f1 235 36 (n32 s.length)) 235 12 (n32 (opn s)) = f2 at ee hZ2 k11 k12' k13
        have hcl := pp_len 1 ws
        by_cases hk : k < 400
        · rw [r_next k11 hk]
          refine ok_oB (ok_some ?_)
          obtain ⟨s', e1', e2', e3'⟩ := PI_close hP hk ho
          have es : s' = s := by
            rw [e1] at e1'
            exact (List.cons.inj e1').2.symm
          subst es
          rw [run_close h25 ho hk, e1, List.tail_cons] at hrun
          refine ih (k + 1) _ _ _ (by omega) (by omega) e3' (fun j hj' => ?_) hrun (eqE_tr ee (eqE_u (by omega))) ⟨u2_self, ?_, ?_⟩ (rZ_cg hZ2 (u2_n (by omega)) (u2_n (by omega)) (fun a j _ _ => u2_n (by omega)))
          · by_cases ej : j = k
            · rw [ej]; omega
            · exact hj j (by omega)
          · rw [u2_n (by omega)]; exact k12'
          · rw [u2_n (by omega)]; exact k13
        · have ek : k = 400 := by omega
          subst ek
          rw [r_next4 k13 k11]
          refine ok_oB (ok_some ?_)
          rw [run_room (by omega) (by omega) (by omega)] at hrun
          have e239 : f2 239 400 = n32 (tPl b len 400) := (ee _ _ (by omega) (by omega) (by omega)).trans (((he _ _ (by omega) (by omega) (by omega)).symm).trans x2)
          obtain ⟨n', rfl⟩ : ∃ n', n = n' + 1 := ⟨n - 1, by omega⟩
          refine r_200F (Z := rCd C (c ++ ppA 1 ws)) (ws := s) (by omega) hpg (rZ_cg hZ2 ?_ ?_ (fun a j _ _ => ?_)) (by omega) ?_ (fun y hy => ?_) (RF_2 e239 (Or.inr rfl) hrun.symm) (eqE_tr ee eqE_f)
          · rw [u2_n (by omega), u2_n (by omega)]
          · rw [u2_n (by omega), u2_n (by omega)]
          · rw [u2_n (by omega), u2_n (by omega)]
          · rw [rCd_app, List.length_append]; omega
          · refine b4 y ?_
            have hsub : ∀ l : List Nat, ∀ z ∈ ppB 1 l, z ∈ l := by
              intro l
              induction l with
              | nil => intro z hz; exact hz
              | cons w l ih2 =>
                intro z hz
                rw [ppB] at hz
                split at hz
                · exact List.mem_cons_of_mem _ (ih2 z hz)
                · exact hz
            exact hsub ws y (by rw [e1]; exact List.mem_cons_of_mem _ hy)
      · with_reducible refine ok_ip (by first | assumption | omega | (simp (disch := omega) only [n32_of, neg_n32_1, n32_nat, n32_lt, n32_le, n32_eq, n32_add, n32_sub, n32_mul, n32_m1, m1_n32, n32_addm1, m1_lt, lt_m1, m1_le, le_m1, m1_add1, ofNat_n32, u2_self, u2_n, mk_I, mk_T, ne_eq, not_true_eq_false, not_false_eq_true, g12]; first | done | omega)) ?_
        exact hall (by omega)
    · refine ok_ip (nz (by omega)) ?_
      exact hall (by omega)
theorem r_12F {f : pln} {n : Nat} (hF : RF O f) (he : eqE pg f0 f) : Ok (H_X12_expression_12 N (n + 1) (n32 0) (n32 1) (mk σ f)) (fun _ σ' => exQ b len pg pt C O k0 σ f0 σ') := by
  have h13 := hF.1
  have hO := hF.2.1
  rw [H_X12_expression_12]
  unfold J_X12_expression_360
  refine ok_in (by decide) ?_
  refine ok_ip ?_ ?_
  · rw [mk_I, h13]
    intro q
    rw [show (0 : Int32) = n32 0 from rfl, n32_eq (by omega) (by omega)] at q
    omega
  · exact ok_some ⟨f, rfl, he, Or.inl hF⟩
theorem r_12 (hN : 1000 ≤ N) (hpg : pg < 14) (hTR : TR b len f0) : ∀ (n k : Nat) (c ws : List Nat) (f : pln), 402 - k ≤ n → k0 ≤ k → PI k 1 pt C c ws → (∀ j, j < k → tTk b len j ≠ 27) → run (tTk b len) (tPl b len) (401 - k) k 1 pt C c ws = O → eqE pg f0 f → rG f k (opn ws) → rZ pg f (rCd C c) ws → Ok (H_X12_expression_12 N n (n32 0) (n32 1) (mk σ f)) (fun _ σ' => exQ b len pg pt C O k0 σ f0 σ') := by
  intro n
  induction n with
  | zero => intro k c ws f hn hk0 hP; have := hP.1; omega
  | succ n ih =>
    intro k c ws f hn hk0 hP hj hrun he hG hZ
    obtain ⟨b1, b2, b3, b4, b5, b6⟩ := PI_r hP (by omega)
    obtain ⟨x, x1, x2, x3, x4, x5, x6, x7, x8, x9, x10, x11, x12, x13, x14, x15, x16⟩ := r_tok (TR_E hTR he) b3 hj
    have tl := (tTk_lt b len k)
    obtain ⟨n', rfl⟩ : ∃ n', n = n' + 1 := ⟨n - 1, by omega⟩
    obtain ⟨g11, g12, g13⟩ := hG
    rw [show 401 - k = (401 - (k + 1)) + 1 by omega] at hrun
    rw [H_X12_expression_12]
    refine ok_in (by decide) ?_
    refine ok_in (by first | assumption | omega | (simp (disch := omega) only [n32_of, neg_n32_1, n32_nat, n32_lt, n32_le, n32_eq, n32_add, n32_sub, n32_mul, n32_m1, m1_n32, n32_addm1, m1_lt, lt_m1, m1_le, le_m1, m1_add1, ofNat_n32, u2_self, u2_n, mk_I, mk_T, ne_eq, not_true_eq_false, not_false_eq_true, g13]; first | done | omega)) ?_
    rw [show (6 : Int32) = n32 6 from rfl, r_is g13 g11 b3 x1 x4 (by omega)]
    refine ok_oB (ok_some ?_)
    have K4 : ∀ f, RF O f → eqE pg f0 f → Ok (H_X12_expression_12 N (n' + 1) (n32 0) (n32 1) (mk σ f)) (fun _ σ' => exQ b len pg pt C O k0 σ f0 σ') := fun f h1 h2 => r_12F h1 h2
    by_cases h24 : tTk b len k = 24
    · refine ok_in (yz (x8.mpr h24)) ?_
      by_cases ho : opn ws = 6
      · with_reducible refine ok_in (by first | assumption | omega | (simp (disch := omega) only [n32_of, neg_n32_1, n32_nat, n32_lt, n32_le, n32_eq, n32_add, n32_sub, n32_mul, n32_m1, m1_n32, n32_addm1, m1_lt, lt_m1, m1_le, le_m1, m1_add1, ofNat_n32, u2_self, u2_n, mk_I, mk_T, ne_eq, not_true_eq_false, not_false_eq_true, g12]; first | done | omega)) ?_
        rw [run_room (Or.inr (Or.inl ⟨rfl, Or.inl h24⟩)) (by omega) (by omega)] at hrun
        rw [show (2 : Int32) = n32 2 from rfl, r_fail g13 g11 b3]
        refine ok_oB (ok_some ?_)
        unfold J_X12_expression_46
        refine ok_in ?_ ?_
        · first | assumption | omega | (simp (disch := omega) only [n32_of, neg_n32_1, n32_nat, n32_lt, n32_le, n32_eq, n32_add, n32_sub, n32_mul, n32_m1, m1_n32, n32_addm1, m1_lt, lt_m1, m1_le, le_m1, m1_add1, ofNat_n32, u2_self, u2_n, mk_I, mk_T, ne_eq, not_true_eq_false, not_false_eq_true, ]; first | done | omega)
        · exact ok_some ⟨_, rfl, eqE_tr he eqE_f, Or.inl (RF_2 x2 (Or.inr rfl) hrun.symm)⟩
      · with_reducible refine ok_ip (by first | assumption | omega | (simp (disch := omega) only [n32_of, neg_n32_1, n32_nat, n32_lt, n32_le, n32_eq, n32_add, n32_sub, n32_mul, n32_m1, m1_n32, n32_addm1, m1_lt, lt_m1, m1_le, le_m1, m1_add1, ofNat_n32, u2_self, u2_n, mk_I, mk_T, ne_eq, not_true_eq_false, not_false_eq_true, g12]; first | done | omega)) ?_
        unfold J_X12_expression_46
        with_reducible refine ok_ip (by first | assumption | omega | (simp (disch := omega) only [n32_of, neg_n32_1, n32_nat, n32_lt, n32_le, n32_eq, n32_add, n32_sub, n32_mul, n32_m1, m1_n32, n32_addm1, m1_lt, lt_m1, m1_le, le_m1, m1_add1, ofNat_n32, u2_self, u2_n, mk_I, mk_T, ne_eq, not_true_eq_false, not_false_eq_true, g13]; first | done | omega)) ?_
        repeat (first | with_reducible refine ok_W ?_ | with_reducible refine ok_cO (by first | assumption | omega | (simp (disch := omega) only [n32_of, neg_n32_1, n32_nat, n32_lt, n32_le, n32_eq, n32_add, n32_sub, n32_mul, n32_m1, m1_n32, n32_addm1, m1_lt, lt_m1, m1_le, le_m1, m1_add1, ofNat_n32, u2_self, u2_n, mk_I, mk_T, ne_eq, not_true_eq_false, not_false_eq_true, ]; first | done | omega)) ?_ | with_reducible refine ok_ip (by first | assumption | omega | (simp (disch := omega) only [n32_of, neg_n32_1, n32_nat, n32_lt, n32_le, n32_eq, n32_add, n32_sub, n32_mul, n32_m1, m1_n32, n32_addm1, m1_lt, lt_m1, m1_le, le_m1, m1_add1, ofNat_n32, u2_self, u2_n, mk_I, mk_T, ne_eq, not_true_eq_false, not_false_eq_true, ]; first | done | omega)) ?_ | with_reducible refine ok_in (by first | assumption | omega | (simp (disch := omega) only [n32_of, neg_n32_1, n32_nat, n32_lt, n32_le, n32_eq, n32_add, n32_sub, n32_mul, n32_m1, m1_n32, n32_addm1, m1_lt, lt_m1, m1_le, le_m1, m1_add1, ofNat_n32, u2_self, u2_n, mk_I, mk_T, ne_eq, not_true_eq_false, not_false_eq_true, ]; first | done | omega)) ?_)
        simp (disch := omega) only [n32_of, neg_n32_1, n32_nat, n32_lt, n32_le, n32_eq, n32_add, n32_sub, n32_mul, n32_m1, m1_n32, n32_addm1, m1_lt, lt_m1, m1_le, le_m1, m1_add1, ofNat_n32, u2_self, u2_n, mk_I, mk_T, g12]
        have h36 := hZ.2.1
        have k11 : u2 f 235 12 (n32 (opn ws + 1)) 235 11 = n32 k := (u2_n (by omega)).trans g11
        have k13 : u2 f 235 12 (n32 (opn ws + 1)) 235 13 = n32 0 := (u2_n (by omega)).trans g13
        by_cases hk : k < 400
        · rw [r_next k11 hk]
          refine ok_oB (ok_some ?_)
          simp (disch := omega) only [n32_of, neg_n32_1, n32_nat, n32_lt, n32_le, n32_eq, n32_add, n32_sub, n32_mul, n32_m1, m1_n32, n32_addm1, m1_lt, lt_m1, m1_le, le_m1, m1_add1, ofNat_n32, u2_self, u2_n, mk_I, mk_T, h36]
          refine ok_cOi (by omega) ?_
          repeat (first | with_reducible refine ok_W ?_ | with_reducible refine ok_cOi (by first | assumption | omega | (simp (disch := omega) only [n32_of, neg_n32_1, n32_nat, n32_lt, n32_le, n32_eq, n32_add, n32_sub, n32_mul, n32_m1, m1_n32, n32_addm1, m1_lt, lt_m1, m1_le, le_m1, m1_add1, ofNat_n32, u2_self, u2_n, mk_I, mk_T, ne_eq, not_true_eq_false, not_false_eq_true, ]; first | done | omega)) ?_ | with_reducible refine ok_ipi (by first | assumption | omega | (simp (disch := omega) only [n32_of, neg_n32_1, n32_nat, n32_lt, n32_le, n32_eq, n32_add, n32_sub, n32_mul, n32_m1, m1_n32, n32_addm1, m1_lt, lt_m1, m1_le, le_m1, m1_add1, ofNat_n32, u2_self, u2_n, mk_I, mk_T, ne_eq, not_true_eq_false, not_false_eq_true, ]; first | done | omega)) ?_ | with_reducible refine ok_ini (by first | assumption | omega | (simp (disch := omega) only [n32_of, neg_n32_1, n32_nat, n32_lt, n32_le, n32_eq, n32_add, n32_sub, n32_mul, n32_m1, m1_n32, n32_addm1, m1_lt, lt_m1, m1_le, le_m1, m1_add1, ofNat_n32, u2_self, u2_n, mk_I, mk_T, ne_eq, not_true_eq_false, not_false_eq_true, ]; first | done | omega)) ?_)
          simp (disch := omega) only [n32_of, neg_n32_1, n32_nat, n32_lt, n32_le, n32_eq, n32_add, n32_sub, n32_mul, n32_m1, m1_n32, n32_addm1, m1_lt, lt_m1, m1_le, le_m1, m1_add1, ofNat_n32, u2_self, u2_n, mk_I, mk_T, h36]
          rw [run_open h24 ⟨hk, by omega, by omega⟩] at hrun
          have hZ2 : rZ pg (u2 (u2 f 235 12 (n32 (opn ws + 1))) 235 11 (n32 (k + 1))) (rCd C c) ws := rZ_cg hZ (by rw [u2_n (by omega), u2_n (by omega)]) (by rw [u2_n (by omega), u2_n (by omega)]) (fun a j _ _ => by rw [u2_n (by omega), u2_n (by omega)])
          refine ih (k + 1) c (24 :: ws) _ (by omega) (by omega) (PI_open hP hk (by omega)) (fun j hj' => ?_) hrun (eqE_tr he (eqE_tr (eqE_u (by omega)) (eqE_tr (eqE_u (by omega)) (eqE_tr eqE_w (eqE_u (by omega)))))) ⟨?_, ?_, ?_⟩ (rZ_push (x := 24) hZ2)
          · by_cases ej : j = k
            · rw [ej]; omega
            · exact hj j (by omega)
          · rw [u2_n (by omega), u2_n (by omega), u2_self]
          · rw [u2_n (by omega), u2_n (by omega), u2_n (by omega), u2_self, opn, if_pos rfl]
          · rw [u2_n (by omega), u2_n (by omega), u2_n (by omega), u2_n (by omega)]; exact g13
        · have ek : k = 400 := by omega
          subst ek
          rw [r_next4 k13 k11]
          refine ok_oB (ok_some ?_)
          simp (disch := omega) only [n32_of, neg_n32_1, n32_nat, n32_lt, n32_le, n32_eq, n32_add, n32_sub, n32_mul, n32_m1, m1_n32, n32_addm1, m1_lt, lt_m1, m1_le, le_m1, m1_add1, ofNat_n32, u2_self, u2_n, mk_I, mk_T, h36]
          refine ok_cOi (by omega) ?_
          repeat (first | with_reducible refine ok_W ?_ | with_reducible refine ok_cOi (by first | assumption | omega | (simp (disch := omega) only [n32_of, neg_n32_1, n32_nat, n32_lt, n32_le, n32_eq, n32_add, n32_sub, n32_mul, n32_m1, m1_n32, n32_addm1, m1_lt, lt_m1, m1_le, le_m1, m1_add1, ofNat_n32, u2_self, u2_n, mk_I, mk_T, ne_eq, not_true_eq_false, not_false_eq_true, ]; first | done | omega)) ?_ | with_reducible refine ok_ipi (by first | assumption | omega | (simp (disch := omega) only [n32_of, neg_n32_1, n32_nat, n32_lt, n32_le, n32_eq, n32_add, n32_sub, n32_mul, n32_m1, m1_n32, n32_addm1, m1_lt, lt_m1, m1_le, le_m1, m1_add1, ofNat_n32, u2_self, u2_n, mk_I, mk_T, ne_eq, not_true_eq_false, not_false_eq_true, ]; first | done | omega)) ?_ | with_reducible refine ok_ini (by first | assumption | omega | (simp (disch := omega) only [n32_of, neg_n32_1, n32_nat, n32_lt, n32_le, n32_eq, n32_add, n32_sub, n32_mul, n32_m1, m1_n32, n32_addm1, m1_lt, lt_m1, m1_le, le_m1, m1_add1, ofNat_n32, u2_self, u2_n, mk_I, mk_T, ne_eq, not_true_eq_false, not_false_eq_true, ]; first | done | omega)) ?_)
          simp (disch := omega) only [n32_of, neg_n32_1, n32_nat, n32_lt, n32_le, n32_eq, n32_add, n32_sub, n32_mul, n32_m1, m1_n32, n32_addm1, m1_lt, lt_m1, m1_le, le_m1, m1_add1, ofNat_n32, u2_self, u2_n, mk_I, mk_T, h36]
          rw [run_room (Or.inr (Or.inl ⟨rfl, Or.inl h24⟩)) (by omega) (by omega)] at hrun
          have e239 : u2 f 235 12 (n32 (opn ws + 1)) 239 400 = n32 (tPl b len 400) := (u2_n (by omega)).trans x2
          obtain ⟨r1, r2, r3⟩ := RF_2 (O := O) e239 (Or.inr rfl) hrun.symm
          refine r_12F ⟨?_, r2, ?_⟩ (eqE_tr he (eqE_tr (eqE_u (by omega)) (eqE_tr eqE_f (eqE_tr eqE_w (eqE_u (by omega))))))
          · rw [u2_n (by omega), u2_n (by omega)]; exact r1
          · rw [u2_n (by omega), u2_n (by omega)]; exact r3
    · refine ok_ip (nz (by omega)) ?_
      with_reducible refine ok_in (by first | assumption | omega | (simp (disch := omega) only [n32_of, neg_n32_1, n32_nat, n32_lt, n32_le, n32_eq, n32_add, n32_sub, n32_mul, n32_m1, m1_n32, n32_addm1, m1_lt, lt_m1, m1_le, le_m1, m1_add1, ofNat_n32, u2_self, u2_n, mk_I, mk_T, ne_eq, not_true_eq_false, not_false_eq_true, g13]; first | done | omega)) ?_
      with_reducible refine ok_cO (by first | assumption | omega | (simp (disch := omega) only [n32_of, neg_n32_1, n32_nat, n32_lt, n32_le, n32_eq, n32_add, n32_sub, n32_mul, n32_m1, m1_n32, n32_addm1, m1_lt, lt_m1, m1_le, le_m1, m1_add1, ofNat_n32, u2_self, u2_n, mk_I, mk_T, ne_eq, not_true_eq_false, not_false_eq_true, g11]; first | done | omega)) ?_
      -- a variable or a number
      have unit : ∀ (v : Nat) (r : Int32), opd (tTk b len k) → (v = 0 ∧ 32 ≤ tTk b len k ∨ v = 1 ∧ tTk b len k ≤ 15) → r = n32 v → Ok (J_X12_expression_150 N (H_X12_expression_12 N (n' + 1)) (n32 0) r (mk σ f)) (fun _ σ' => exQ b len pg pt C O k0 σ f0 σ') := by
        intro v r hop hv hr
        subst hr
        have next : ∀ w, (opd (tTk b len k) → w = rV (tTk b len k)) → Ok (oB (F_X12_emit N (n32 (rK (tTk b len k))) (n32 w) (mk σ f)) fun _ σ82 => J_X12_expression_196 N (H_X12_expression_12 N (n' + 1)) (n32 0) σ82) (fun _ σ' => exQ b len pg pt C O k0 σ f0 σ') := by
          intro w hw
          rw [r_emit hZ.1.1 (by omega)]
          refine ok_oB (ok_some ?_)
          have hZ2 := rZ_emit (x := tTk b len k) (v := w) hZ hw
          have ee : eqE pg f0 (u2 (u2 (u2 f 256 (500 * pg + (rCd C c).length) (n32 (rK (tTk b len k)))) 257 (500 * pg + (rCd C c).length) (n32 w)) 235 32 (n32 (500 * pg + (rCd C c).length + 1))) := eqE_tr he (fun a j w1 w2 w3 => by rw [u2_n (by omega), u2_n (by omega), u2_n (by omega)])
          have k11 : u2 (u2 (u2 f 256 (500 * pg + (rCd C c).length) (n32 (rK (tTk b len k)))) 257 (500 * pg + (rCd C c).length) (n32 w)) 235 32 (n32 (500 * pg + (rCd C c).length + 1)) 235 11 = n32 k := by rw [u2_n (by omega), u2_n (by omega), u2_n (by omega)]; exact g11
          have k12' : u2 (u2 (u2 f 256 (500 * pg + (rCd C c).length) (n32 (rK (tTk b len k)))) 257 (500 * pg + (rCd C c).length) (n32 w)) 235 32 (n32 (500 * pg + (rCd C c).length + 1)) 235 12 = n32 (opn ws) := by rw [u2_n (by omega), u2_n (by omega), u2_n (by omega)]; exact g12
          have k13 : u2 (u2 (u2 f 256 (500 * pg + (rCd C c).length) (n32 (rK (tTk b len k)))) 257 (500 * pg + (rCd C c).length) (n32 w)) 235 32 (n32 (500 * pg + (rCd C c).length + 1)) 235 13 = n32 0 := by rw [u2_n (by omega), u2_n (by omega), u2_n (by omega)]; exact g13
          generalize u2 (u2 (u2 f 256 (500 * pg + (rCd C c).length) (n32 (rK (tTk b len k)))) 257 (500 * pg + (rCd C c).length) (n32 w)) 235 32 (n32 (500 * pg + (rCd C c).length + 1)) = f2 at hZ2 ee k11 k12' k13
          rw [← rCd_app] at hZ2
          unfold J_X12_expression_196
          by_cases hk : k < 400
          · rw [r_next k11 hk]
            refine ok_oB (ok_some ?_)
            rw [run_opd hop ⟨hk, by omega, by omega⟩] at hrun
            refine r_200 (km := k) hN hpg hTR (fun k' c' ws' f' q1 q2 q3 q4 q5 q6 q7 => ih k' c' ws' f' (by omega) (by omega) q2 q3 q4 q5 q6 q7) K4 hk0 N (k + 1) _ _ _ (by omega) (by omega) (PI_opd hP hk hop (by omega)) (fun j hj' => ?_) hrun (eqE_tr ee (eqE_u (by omega))) ⟨u2_self, ?_, ?_⟩ (rZ_cg hZ2 (u2_n (by omega)) (u2_n (by omega)) (fun a j _ _ => u2_n (by omega)))
            · by_cases ej : j = k
              · rw [ej]; omega
              · exact hj j (by omega)
            · rw [u2_n (by omega)]; exact k12'
            · rw [u2_n (by omega)]; exact k13
          · have ek : k = 400 := by omega
            subst ek
            rw [r_next4 k13 k11]
            refine ok_oB (ok_some ?_)
            rw [run_room (Or.inr (Or.inl ⟨rfl, Or.inr hop⟩)) (by omega) (by omega)] at hrun
            have e239 : f2 239 400 = n32 (tPl b len 400) := (ee _ _ (by omega) (by omega) (by omega)).trans (((he _ _ (by omega) (by omega) (by omega)).symm).trans x2)
            obtain ⟨N', rfl⟩ : ∃ N', N = N' + 1 := ⟨N - 1, by omega⟩
            refine r_200F (Z := rCd C (c ++ [tTk b len 400])) (ws := ws) (by omega) hpg (rZ_cg hZ2 ?_ ?_ (fun a j _ _ => ?_)) (by omega) ?_ b4 (RF_2 e239 (Or.inr rfl) hrun.symm) (eqE_tr ee eqE_f)
            · rw [u2_n (by omega), u2_n (by omega)]
            · rw [u2_n (by omega), u2_n (by omega)]
            · rw [u2_n (by omega), u2_n (by omega)]
            · rw [rCd_app, List.length_append, List.length_singleton]; omega
        unfold J_X12_expression_150
        with_reducible refine ok_ip (by first | assumption | omega | (simp (disch := omega) only [n32_of, neg_n32_1, n32_nat, n32_lt, n32_le, n32_eq, n32_add, n32_sub, n32_mul, n32_m1, m1_n32, n32_addm1, m1_lt, lt_m1, m1_le, le_m1, m1_add1, ofNat_n32, u2_self, u2_n, mk_I, mk_T, ne_eq, not_true_eq_false, not_false_eq_true, g13]; first | done | omega)) ?_
        rcases hv with ⟨rfl, h32⟩ | ⟨rfl, h15⟩
        · have hK : rK (tTk b len k) = 0 := by unfold rK; rw [if_pos h32]
          have hV : rV (tTk b len k) = tTk b len k - 32 := by unfold rV; rw [if_pos h32]
          have := next (tTk b len k - 32) (fun _ => hV.symm)
          rw [hK] at this
          refine ok_ip rfl ?_
          with_reducible refine ok_cO (by first | assumption | omega | (simp (disch := omega) only [n32_of, neg_n32_1, n32_nat, n32_lt, n32_le, n32_eq, n32_add, n32_sub, n32_mul, n32_m1, m1_n32, n32_addm1, m1_lt, lt_m1, m1_le, le_m1, m1_add1, ofNat_n32, u2_self, u2_n, mk_I, mk_T, ne_eq, not_true_eq_false, not_false_eq_true, g11]; first | done | omega)) ?_
          simp (disch := omega) only [n32_of, neg_n32_1, n32_nat, n32_lt, n32_le, n32_eq, n32_add, n32_sub, n32_mul, n32_m1, m1_n32, n32_addm1, m1_lt, lt_m1, m1_le, le_m1, m1_add1, ofNat_n32, u2_self, u2_n, mk_I, mk_T, g11, x3 h32]
          exact this
        · have hK : rK (tTk b len k) = 1 := by unfold rK; rw [if_neg (by omega), if_pos h15]
          have hV : rV (tTk b len k) = tTk b len k - 6 := by unfold rV; rw [if_neg (by omega)]
          have := next (tTk b len k - 6) (fun _ => hV.symm)
          rw [hK] at this
          have hx : x = 20 + tTk b len k := x14 (by omega)
          refine ok_in (by decide) ?_
          with_reducible refine ok_cO (by first | assumption | omega | (simp (disch := omega) only [n32_of, neg_n32_1, n32_nat, n32_lt, n32_le, n32_eq, n32_add, n32_sub, n32_mul, n32_m1, m1_n32, n32_addm1, m1_lt, lt_m1, m1_le, le_m1, m1_add1, ofNat_n32, u2_self, u2_n, mk_I, mk_T, ne_eq, not_true_eq_false, not_false_eq_true, g11]; first | done | omega)) ?_
          have e1 : n32 x - 26 = n32 (tTk b len k - 6) := by
            rw [hx, show (26 : Int32) = n32 26 from rfl, n32_sub (by omega)]
            congr 1
            omega
          have e2 : aI (mk σ f) 238 (aI (mk σ f) 235 11).toNatClampNeg = n32 x := by
            rw [mk_I, g11, n32_nat (by omega)]
            exact x1
          rw [e2, e1]
          exact this
      have bad : ¬ opd (tTk b len k) → Ok (J_X12_expression_132 N (H_X12_expression_12 N (n' + 1)) (n32 0) 0 (mk σ f)) (fun _ σ' => exQ b len pg pt C O k0 σ f0 σ') := by
        intro hno
        unfold J_X12_expression_132
        rw [show (2 : Int32) = n32 2 from rfl, r_is g13 g11 b3 x1 x4 (by omega)]
        refine ok_oB (ok_some ?_)
        refine ok_in (fun q => q (nz (by omega))) ?_
        refine ok_in (fun q => q rfl) ?_
        rw [show (1 : Int32) = n32 1 from rfl, r_fail g13 g11 b3]
        refine ok_oB (ok_some ?_)
        rw [run_bad (by omega)] at hrun
        unfold J_X12_expression_150
        refine ok_in ?_ ?_
        · first | assumption | omega | (simp (disch := omega) only [n32_of, neg_n32_1, n32_nat, n32_lt, n32_le, n32_eq, n32_add, n32_sub, n32_mul, n32_m1, m1_n32, n32_addm1, m1_lt, lt_m1, m1_le, le_m1, m1_add1, ofNat_n32, u2_self, u2_n, mk_I, mk_T, ne_eq, not_true_eq_false, not_false_eq_true, ]; first | done | omega)
        · exact ok_some ⟨_, rfl, eqE_tr he eqE_f, Or.inl (RF_2 x2 (Or.inl rfl) hrun.symm)⟩
      have num : 32 ≤ tTk b len k → Ok (J_X12_expression_132 N (H_X12_expression_12 N (n' + 1)) (n32 0) 0 (mk σ f)) (fun _ σ' => exQ b len pg pt C O k0 σ f0 σ') := by
        intro h32
        unfold J_X12_expression_132
        rw [show (2 : Int32) = n32 2 from rfl, r_is g13 g11 b3 x1 x4 (by omega)]
        refine ok_oB (ok_some ?_)
        refine ok_ip (yz (x6.mpr h32)) ?_
        exact unit 0 0 (Or.inl h32) (Or.inl ⟨rfl, h32⟩) rfl
      have e2 : aI (mk σ f) 238 (aI (mk σ f) 235 11).toNatClampNeg = n32 x := by
        rw [mk_I, g11, n32_nat (by omega)]
        exact x1
      rw [e2]
      unfold J_X12_expression_131
      by_cases h26 : x < 26
      · refine ok_ip (by first | assumption | omega | (simp (disch := omega) only [n32_of, neg_n32_1, n32_nat, n32_lt, n32_le, n32_eq, n32_add, n32_sub, n32_mul, n32_m1, m1_n32, n32_addm1, m1_lt, lt_m1, m1_le, le_m1, m1_add1, ofNat_n32, u2_self, u2_n, mk_I, mk_T, ne_eq, not_true_eq_false, not_false_eq_true, ]; first | done | omega)) ?_
        by_cases h32 : 32 ≤ tTk b len k
        · exact num h32
        · exact bad (by omega)
      · refine ok_in (by first | assumption | omega | (simp (disch := omega) only [n32_of, neg_n32_1, n32_nat, n32_lt, n32_le, n32_eq, n32_add, n32_sub, n32_mul, n32_m1, m1_n32, n32_addm1, m1_lt, lt_m1, m1_le, le_m1, m1_add1, ofNat_n32, u2_self, u2_n, mk_I, mk_T, ne_eq, not_true_eq_false, not_false_eq_true, ]; first | done | omega)) ?_
        with_reducible refine ok_cO (by first | assumption | omega | (simp (disch := omega) only [n32_of, neg_n32_1, n32_nat, n32_lt, n32_le, n32_eq, n32_add, n32_sub, n32_mul, n32_m1, m1_n32, n32_addm1, m1_lt, lt_m1, m1_le, le_m1, m1_add1, ofNat_n32, u2_self, u2_n, mk_I, mk_T, ne_eq, not_true_eq_false, not_false_eq_true, g11]; first | done | omega)) ?_
        refine ok_in (by first | assumption | omega | (simp (disch := omega) only [n32_of, neg_n32_1, n32_nat, n32_lt, n32_le, n32_eq, n32_add, n32_sub, n32_mul, n32_m1, m1_n32, n32_addm1, m1_lt, lt_m1, m1_le, le_m1, m1_add1, ofNat_n32, u2_self, u2_n, mk_I, mk_T, ne_eq, not_true_eq_false, not_false_eq_true, ]; first | done | omega)) ?_
        have hvar : 6 ≤ tTk b len k ∧ tTk b len k ≤ 15 := by omega
        unfold J_X12_expression_132
        rw [show (2 : Int32) = n32 2 from rfl, r_is g13 g11 b3 x1 x4 (by omega)]
        refine ok_oB (ok_some ?_)
        refine ok_if (fun _ => unit 1 1 (Or.inr hvar) (Or.inr ⟨rfl, hvar.2⟩) rfl) (fun _ => ?_)
        refine ok_ip (by decide) ?_
        exact unit 1 1 (Or.inr hvar) (Or.inr ⟨rfl, hvar.2⟩) rfl
/-- one E -/
theorem r_expr {k : Nat} (hN : 1000 ≤ N) (hpg : pg < 14) (hTR : TR b len f0) (hP : PI k 1 pt C [] []) (hj : ∀ j, j < k → tTk b len j ≠ 27) (hrun : run (tTk b len) (tPl b len) (401 - k) k 1 pt C [] [] = O) (hG : rG f0 k 0) (h32 : f0 235 32 = n32 (500 * pg + (rCd C []).length)) (hs : segR f0 (500 * pg) (rCd C [])) : Ok (F_X12_expression N (mk σ f0)) (fun _ σ' => exQ b len pg pt C O k σ f0 σ') := by
  unfold F_X12_expression
  repeat (first | with_reducible refine ok_W ?_ | with_reducible refine ok_cO (by first | assumption | omega | (simp (disch := omega) only [n32_of, neg_n32_1, n32_nat, n32_lt, n32_le, n32_eq, n32_add, n32_sub, n32_mul, n32_m1, m1_n32, n32_addm1, m1_lt, lt_m1, m1_le, le_m1, m1_add1, ofNat_n32, u2_self, u2_n, mk_I, mk_T, ne_eq, not_true_eq_false, not_false_eq_true, ]; first | done | omega)) ?_ | with_reducible refine ok_ip (by first | assumption | omega | (simp (disch := omega) only [n32_of, neg_n32_1, n32_nat, n32_lt, n32_le, n32_eq, n32_add, n32_sub, n32_mul, n32_m1, m1_n32, n32_addm1, m1_lt, lt_m1, m1_le, le_m1, m1_add1, ofNat_n32, u2_self, u2_n, mk_I, mk_T, ne_eq, not_true_eq_false, not_false_eq_true, ]; first | done | omega)) ?_ | with_reducible refine ok_in (by first | assumption | omega | (simp (disch := omega) only [n32_of, neg_n32_1, n32_nat, n32_lt, n32_le, n32_eq, n32_add, n32_sub, n32_mul, n32_m1, m1_n32, n32_addm1, m1_lt, lt_m1, m1_le, le_m1, m1_add1, ofNat_n32, u2_self, u2_n, mk_I, mk_T, ne_eq, not_true_eq_false, not_false_eq_true, ]; first | done | omega)) ?_)
  have e12 : aI (mk σ (u2 f0 235 36 0)) 235 12 = n32 0 := by
    show u2 f0 235 36 0 235 12 = n32 0
    rw [u2_n (by omega)]
    exact hG.2.1
  rw [e12]
  refine r_12 hN hpg hTR N k [] [] _ (by omega) (Nat.le_refl _) hP hj hrun (eqE_u (by omega)) ⟨(u2_n (by omega)).trans hG.1, (u2_n (by omega)).trans hG.2.1, (u2_n (by omega)).trans hG.2.2⟩ ⟨⟨(u2_n (by omega)).trans h32, segR_cg hs (fun j => u2_n (by omega)) (fun j => u2_n (by omega))⟩, u2_self, trivial⟩
/-- with a fault nothing is read -/
theorem r_exprF {f : pln} (hN : 1000 ≤ N) (hF : RF O f) : Ok (F_X12_expression N (mk σ f)) (fun _ σ' => ∃ f', σ' = mk σ f' ∧ eqE pg f f' ∧ RF O f') := by
  unfold F_X12_expression
  repeat (first | with_reducible refine ok_W ?_ | with_reducible refine ok_cO (by first | assumption | omega | (simp (disch := omega) only [n32_of, neg_n32_1, n32_nat, n32_lt, n32_le, n32_eq, n32_add, n32_sub, n32_mul, n32_m1, m1_n32, n32_addm1, m1_lt, lt_m1, m1_le, le_m1, m1_add1, ofNat_n32, u2_self, u2_n, mk_I, mk_T, ne_eq, not_true_eq_false, not_false_eq_true, ]; first | done | omega)) ?_ | with_reducible refine ok_ip (by first | assumption | omega | (simp (disch := omega) only [n32_of, neg_n32_1, n32_nat, n32_lt, n32_le, n32_eq, n32_add, n32_sub, n32_mul, n32_m1, m1_n32, n32_addm1, m1_lt, lt_m1, m1_le, le_m1, m1_add1, ofNat_n32, u2_self, u2_n, mk_I, mk_T, ne_eq, not_true_eq_false, not_false_eq_true, ]; first | done | omega)) ?_ | with_reducible refine ok_in (by first | assumption | omega | (simp (disch := omega) only [n32_of, neg_n32_1, n32_nat, n32_lt, n32_le, n32_eq, n32_add, n32_sub, n32_mul, n32_m1, m1_n32, n32_addm1, m1_lt, lt_m1, m1_le, le_m1, m1_add1, ofNat_n32, u2_self, u2_n, mk_I, mk_T, ne_eq, not_true_eq_false, not_false_eq_true, ]; first | done | omega)) ?_)
  obtain ⟨N', rfl⟩ : ∃ N', N = N' + 1 := ⟨N - 1, by omega⟩
  have h13 := hF.1
  have hO := hF.2.1
  rw [H_X12_expression_12]
  unfold J_X12_expression_360
  refine ok_in (by decide) ?_
  refine ok_ip ?_ ?_
  · show u2 f 235 36 0 235 13 ≠ 0
    rw [u2_n (by omega), h13]
    intro q
    rw [show (0 : Int32) = n32 0 from rfl, n32_eq (by omega) (by omega)] at q
    omega
  · exact ok_some ⟨_, rfl, eqE_u (by omega), (u2_n (by omega)).trans hF.1, hF.2.1, (u2_n (by omega)).trans hF.2.2⟩
end REX
