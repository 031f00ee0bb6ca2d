/-! ===== the reference reads relations and rules ===== -/
def RLs (f : pln) : Nat → Nat → List Rl → Prop
  | _, _, [] => True
  | i, p, q :: rl => (f 251 i = n32 q.2.1 ∧ f 252 i = n32 p ∧ f 253 i = n32 (p + q.2.2.1.length) ∧ f 254 i = n32 (p + q.2.2.1.length + q.2.2.2.length) ∧ f 255 i = bB q.1) ∧ RLs f (i + 1) (p + q.2.2.1.length + q.2.2.2.length) rl
def nrl : List Ru → Nat
  | [] => 0
  | u :: rs => u.2.2.length + nrl rs
def RRs (pg : Nat) (f : pln) : Nat → Nat → Nat → List Ru → Prop
  | _, _, _, [] => True
  | r, p, a, u :: rs => (f 245 (20 * pg + r) = n32 u.1 ∧ f 246 (20 * pg + r) = n32 p ∧ f 247 (20 * pg + r) = n32 (p + u.2.1.length) ∧ f 248 (20 * pg + r) = n32 a ∧ f 249 (20 * pg + r) = n32 (a + u.2.2.length)) ∧ RLs f (200 * pg + a) (p + u.2.1.length) u.2.2 ∧ RRs pg f (r + 1) (p + u.2.1.length + (frl u.2.2).length) (a + u.2.2.length) rs
theorem RLs_cg {f f' : pln} : ∀ (rl : List Rl) (i p : Nat), RLs f i p rl → (∀ a k, 251 ≤ a → a ≤ 255 → i ≤ k → k < i + rl.length → f' a k = f a k) → RLs f' i p rl := by
  intro rl
  induction rl with
  | nil => intro i p _ _; exact trivial
  | cons q rl ih =>
    intro i p h e
    rw [List.length_cons] at e
    obtain ⟨⟨h1, h2, h3, h4, h5⟩, h6⟩ := h
    exact ⟨⟨(e _ _ (by omega) (by omega) (by omega) (by omega)).trans h1, (e _ _ (by omega) (by omega) (by omega) (by omega)).trans h2, (e _ _ (by omega) (by omega) (by omega) (by omega)).trans h3, (e _ _ (by omega) (by omega) (by omega) (by omega)).trans h4, (e _ _ (by omega) (by omega) (by omega) (by omega)).trans h5⟩, ih _ _ h6 (fun a k a1 a2 a3 a4 => e a k a1 a2 (by omega) (by omega))⟩
theorem RLs_app {f : pln} {q : Rl} : ∀ (rl : List Rl) (i p : Nat), RLs f i p rl → RLs f (i + rl.length) (p + (frl rl).length) [q] → RLs f i p (rl ++ [q]) := by
  intro rl
  induction rl with
  | nil => intro i p _ h; exact h
  | cons x rl ih =>
    intro i p h h2
    refine ⟨h.1, ih _ _ h.2 ?_⟩
    rw [frl, List.length_append, List.length_append, List.length_cons] at h2
    rw [show i + 1 + rl.length = i + (rl.length + 1) by omega, show p + x.2.2.1.length + x.2.2.2.length + (frl rl).length = p + (x.2.2.1.length + (x.2.2.2.length + (frl rl).length)) by omega]
    exact h2
theorem RRs_cg {pg : Nat} {f f' : pln} : ∀ (rs : List Ru) (r p a : Nat), RRs pg f r p a rs → (∀ c k, 245 ≤ c → c ≤ 249 → 20 * pg + r ≤ k → k < 20 * pg + r + rs.length → f' c k = f c k) → (∀ c k, 251 ≤ c → c ≤ 255 → 200 * pg + a ≤ k → k < 200 * pg + a + nrl rs → f' c k = f c k) → RRs pg f' r p a rs := by
  intro rs
  induction rs with
  | nil => intro r p a _ _ _; exact trivial
  | cons u rs ih =>
    intro r p a h e e2
    rw [List.length_cons] at e
    rw [nrl] at e2
    obtain ⟨⟨h1, h2, h3, h4, h5⟩, h6, h7⟩ := h
    exact ⟨⟨(e _ _ (by omega) (by omega) (by omega) (by omega)).trans h1, (e _ _ (by omega) (by omega) (by omega) (by omega)).trans h2, (e _ _ (by omega) (by omega) (by omega) (by omega)).trans h3, (e _ _ (by omega) (by omega) (by omega) (by omega)).trans h4, (e _ _ (by omega) (by omega) (by omega) (by omega)).trans h5⟩, RLs_cg _ _ _ h6 (fun c k a1 a2 a3 a4 => e2 c k a1 a2 (by omega) (by omega)), ih _ _ _ h7 (fun c k a1 a2 a3 a4 => e c k a1 a2 (by omega) (by omega)) (fun c k a1 a2 a3 a4 => e2 c k a1 a2 (by omega) (by omega))⟩
theorem RRs_app {pg : Nat} {f : pln} {u : Ru} : ∀ (rs : List Ru) (r p a : Nat), RRs pg f r p a rs → RRs pg f (r + rs.length) (p + (frc rs).length) (a + nrl rs) [u] → RRs pg f r p a (rs ++ [u]) := by
  intro rs
  induction rs with
  | nil => intro r p a _ h; exact h
  | cons x rs ih =>
    intro r p a h h2
    refine ⟨h.1, h.2.1, ih _ _ _ h.2.2 ?_⟩
    rw [frc, List.length_append, List.length_append, List.length_cons, nrl] at h2
    rw [show r + 1 + rs.length = r + (rs.length + 1) by omega, show p + x.2.1.length + (frl x.2.2).length + (frc rs).length = p + (x.2.1.length + ((frl x.2.2).length + (frc rs).length)) by omega, show a + x.2.2.length + nrl rs = a + (x.2.2.length + nrl rs) by omega]
    exact h2
theorem nrl_le : ∀ rs, 2 * nrl rs ≤ wtr rs := by
  intro rs
  induction rs with
  | nil => exact Nat.le_refl _
  | cons u rs ih =>
    have := wl2_len u.2.2
    rw [nrl, wtr]
    omega
theorem nrl_app : ∀ (a c : List Ru), nrl (a ++ c) = nrl a + nrl c := by
  intro a
  induction a with
  | nil => intro c; exact (Nat.zero_add _).symm
  | cons q a ih => intro c; rw [List.cons_append, nrl, nrl, ih]; omega
def RQ (pg : Nat) (f : pln) (C : CX) (st pt : Nat) : Prop := (f 244 pg = n32 (xR C).length ∧ f 250 pg = n32 (nrl (xR C) + (xL C).length) ∧ f 235 19 = n32 pg) ∧ RRs pg f 0 (500 * pg) 0 (xR C) ∧ (st ≠ 0 → f 245 (20 * pg + (xR C).length) = n32 (xW C) ∧ f 246 (20 * pg + (xR C).length) = n32 (500 * pg + (frc (xR C)).length)) ∧ (pt ≠ 0 → f 247 (20 * pg + (xR C).length) = n32 (500 * pg + (frc (xR C)).length + (xV C).length) ∧ f 248 (20 * pg + (xR C).length) = n32 (nrl (xR C)) ∧ RLs f (200 * pg + nrl (xR C)) (500 * pg + (frc (xR C)).length + (xV C).length) (xL C))
theorem RQ_E {pg st pt : Nat} {f f' : pln} {C : CX} (h : RQ pg f C st pt) (e : eqE pg f f') : RQ pg f' C st pt := by
  obtain ⟨⟨h1, h2, h3⟩, h4, h5, h6⟩ := h
  have e' : ∀ a k, 244 ≤ a → a ≤ 255 → f' a k = f a k := fun a k a1 a2 => e a k (by omega) (by omega) (by omega)
  exact ⟨⟨(e' _ _ (by omega) (by omega)).trans h1, (e' _ _ (by omega) (by omega)).trans h2, (e _ _ (by omega) (by omega) (by omega)).trans h3⟩, RRs_cg _ _ _ _ h4 (fun c k a1 a2 _ _ => e' c k (by omega) (by omega)) (fun c k a1 a2 _ _ => e' c k (by omega) (by omega)), fun q => ⟨(e' _ _ (by omega) (by omega)).trans (h5 q).1, (e' _ _ (by omega) (by omega)).trans (h5 q).2⟩, fun q => ⟨(e' _ _ (by omega) (by omega)).trans (h6 q).1, (e' _ _ (by omega) (by omega)).trans (h6 q).2.1, RLs_cg _ _ _ (h6 q).2.2 (fun c k a1 a2 _ _ => e' c k (by omega) (by omega))⟩⟩
def eqR (pg : Nat) (f f' : pln) : Prop := ∀ a k, (a ≠ 235 ∨ (k ≠ 11 ∧ k ≠ 12 ∧ k ≠ 13 ∧ k ≠ 14 ∧ k ≠ 32 ∧ k ≠ 36)) → a ≠ 258 → ((a ≠ 256 ∧ a ≠ 257) ∨ k < 500 * pg ∨ 500 * pg + 500 ≤ k) → ((a ≠ 244 ∧ a ≠ 250) ∨ k ≠ pg) → ((a < 245 ∨ 249 < a) ∨ k < 20 * pg ∨ 20 * pg + 20 ≤ k) → ((a < 251 ∨ 255 < a) ∨ k < 200 * pg ∨ 200 * pg + 200 ≤ k) → f' a k = f a k
theorem eqR_E {pg : Nat} {f f' : pln} (h : eqE pg f f') : eqR pg f f' := fun a k h1 h2 h3 _ _ _ => h a k h1 h2 h3
theorem eqR_rf {pg : Nat} {f : pln} : eqR pg f f := fun _ _ _ _ _ _ _ _ => rfl
theorem eqR_tr {pg : Nat} {f g h : pln} (e1 : eqR pg f g) (e2 : eqR pg g h) : eqR pg f h := fun a k q1 q2 q3 q4 q5 q6 => (e2 a k q1 q2 q3 q4 q5 q6).trans (e1 a k q1 q2 q3 q4 q5 q6)
theorem TR_R {b : Nat → Nat} {len pg : Nat} {f f' : pln} (h : TR b len f) (e : eqR pg f f') : TR b len f' := fun j hj hb => tokR_cg (h j hj hb) (e _ _ (by omega) (by omega) (by omega) (by omega) (by omega) (by omega)) (e _ _ (by omega) (by omega) (by omega) (by omega) (by omega) (by omega)) (e _ _ (by omega) (by omega) (by omega) (by omega) (by omega) (by omega))
def rCo (pg : Nat) (f : pln) (Z : List Nat) : Prop := f 235 32 = n32 (500 * pg + Z.length) ∧ segR f (500 * pg) Z
theorem rCd_con {C : CX} {e : List Nat} {o : Bool} : rCd (cCon C e o) [] = rCd C e := by
  show frc (xR C) ++ (xV C ++ (frl (finR C e) ++ ([] ++ []))) = _
  unfold finR rCd
  rw [frl_app]
  simp [frl]
def reOK (b : Nat → Nat) (len pg : Nat) (O : Nat × Nat × List Ru) (rs : List Ru) (km : Nat) (f : pln) : Prop := ∃ k C c ws, xR C = rs ∧ km < k ∧ PI k 2 2 C c ws ∧ opn ws = 0 ∧ (∀ j, j < k → tTk b len j ≠ 27) ∧ run (tTk b len) (tPl b len) (401 - k) k 2 2 C c ws = O ∧ ¬ (17 ≤ tTk b len k ∧ tTk b len k ≤ 19) ∧ rG f k 0 ∧ rCo pg f (rCd C (c ++ ws)) ∧ RQ pg f (cCon C (c ++ ws) true) 1 1
section RRL
variable {N pg len : Nat} {b : Nat → Nat} {σ : aSt} {O : Nat × Nat × List Ru}
theorem RF_ne {f : pln} (h : RF O f) : ¬ aI (mk σ f) 235 13 ≤ 0 ∧ aI (mk σ f) 235 13 ≠ 0 := by
  have h13 := h.1
  have hO := h.2.1
  constructor
  · rw [mk_I, h13, show (0 : Int32) = n32 0 from rfl, n32_le (by omega) (by omega)]
    omega
  · rw [mk_I, h13, show (0 : Int32) = n32 0 from rfl, ne_eq, n32_eq (by omega) (by omega)]
    omega
theorem RF_E {f f' : pln} (h : RF O f) (e1 : f' 235 13 = f 235 13) (e2 : f' 235 14 = f 235 14) : RF O f' := ⟨e1.trans h.1, h.2.1, e2.trans h.2.2⟩
theorem r_54F {f : pln} {x1 x2 x3 : Int32} (hN : 1000 ≤ N) (hF : RF O f) : Ok (J_X12_relation_54 N x1 x2 x3 (mk σ f)) (fun _ σ' => ∃ f', σ' = mk σ f' ∧ eqE pg f f' ∧ RF O f') := by
  obtain ⟨f1, e1, e2, e3, e4, -⟩ := r_nextF (N := N) (σ := σ) (pg := pg) hF.1 hF.2.1
  unfold J_X12_relation_54
  rw [e1]
  refine ok_oB (ok_some ?_)
  refine ok_oB (ok_mono (r_exprF (pg := pg) hN (RF_E hF e3 e4)) (fun u σ' hq => ?_))
  obtain ⟨f2, rfl, e5, h5⟩ := hq
  refine ok_in (RF_ne h5).1 ?_
  exact ok_some ⟨f2, rfl, eqE_tr e2 e5, h5⟩
theorem r_rel {k : Nat} {C : CX} {f : pln} (hN : 1000 ≤ N) (hpg : pg < 14) (hTR : TR b len f) (hP : PI k 1 1 C [] []) (hj : ∀ j, j < k → tTk b len j ≠ 27) (hrun : run (tTk b len) (tPl b len) (401 - k) k 1 1 C [] [] = O) (hG : rG f k 0) (hC : rCo pg f (rCd C [])) (hQ : RQ pg f C 1 1) : Ok (F_X12_relation N (bB (xO C)) (mk σ f)) (fun _ σ' => ∃ f', σ' = mk σ f' ∧ eqR pg f f' ∧ (RF O f' ∨ reOK b len pg O (xR C) k f')) := by
  unfold F_X12_relation
  have e32 : aI (mk σ f) 235 32 = n32 (500 * pg + (rCd C []).length) := hC.1
  rw [e32]
  refine ok_oB (ok_mono (r_expr hN hpg hTR hP hj hrun hG hC.1 hC.2) (fun u σ' hq => ?_))
  obtain ⟨f1, rfl, e1, hq⟩ := hq
  rcases hq with hF | ⟨k1, c, ws, lk1, P1, o1, j1, run1, n1, ⟨g11, g12, g13⟩, hZ1⟩
  · refine ok_in (RF_ne hF).1 ?_
    unfold J_X12_relation_32
    refine ok_ip (RF_ne hF).2 ?_
    refine ok_mono (r_54F (pg := pg) hN hF) (fun u σ' hq => ?_)
    obtain ⟨f2, q1, q2, q3⟩ := hq
    exact ⟨f2, q1, eqR_E (eqE_tr e1 q2), Or.inl q3⟩
  · obtain ⟨b1, b2, b3, b4, b5, b6⟩ := PI_r P1 (by omega)
    obtain ⟨x, x1, x2, x3, x4, x5, x6, x7, x8, x9, x10, x11, x12, x13, x14, x15, x16⟩ := r_tok (TR_E hTR e1) b3 j1
    have e0 := P1.2.1.2.2.2.2.1 (by omega)
    with_reducible refine ok_ip (by first | assumption | omega | (simp (disch := omega) only [n32_of, neg_n32_1, n32_nat, n32_lt, n32_le, n32_eq, n32_add, n32_sub, n32_mul, n32_m1, m1_n32, n32_addm1, m1_lt, lt_m1, m1_le, le_m1, m1_add1, ofNat_n32, u2_self, u2_n, mk_I, mk_T, ne_eq, not_true_eq_false, not_false_eq_true, g13]; first | done | omega)) ?_
    with_reducible refine ok_cO (by first | assumption | omega | (simp (disch := omega) only [n32_of, neg_n32_1, n32_nat, n32_lt, n32_le, n32_eq, n32_add, n32_sub, n32_mul, n32_m1, m1_n32, n32_addm1, m1_lt, lt_m1, m1_le, le_m1, m1_add1, ofNat_n32, u2_self, u2_n, mk_I, mk_T, ne_eq, not_true_eq_false, not_false_eq_true, g11]; first | done | omega)) ?_
    have ex : aI (mk σ f1) 238 (aI (mk σ f1) 235 11).toNatClampNeg = n32 x := by
      rw [mk_I, g11, n32_nat (by omega)]
      exact x1
    rw [ex]
    unfold J_X12_relation_32
    refine ok_in (by first | assumption | omega | (simp (disch := omega) only [n32_of, neg_n32_1, n32_nat, n32_lt, n32_le, n32_eq, n32_add, n32_sub, n32_mul, n32_m1, m1_n32, n32_addm1, m1_lt, lt_m1, m1_le, le_m1, m1_add1, ofNat_n32, u2_self, u2_n, mk_I, mk_T, ne_eq, not_true_eq_false, not_false_eq_true, g13]; first | done | omega)) ?_
    rw [show 401 - k1 = (401 - (k1 + 1)) + 1 by omega] at run1
    by_cases hx : 11 ≤ x ∧ x ≤ 14
    · have htk := x15.mpr hx
      have ex2 : n32 x - 11 = n32 (x - 11) := by rw [show (11 : Int32) = n32 11 from rfl, n32_sub (by omega)]
      have exs : x - 11 = tTk b len k1 - 20 := by
        have := x16 htk
        omega
      rw [ex2, exs]
      with_reducible refine ok_in (by first | assumption | omega | (simp (disch := omega) only [n32_of, neg_n32_1, n32_nat, n32_lt, n32_le, n32_eq, n32_add, n32_sub, n32_mul, n32_m1, m1_n32, n32_addm1, m1_lt, lt_m1, m1_le, le_m1, m1_add1, ofNat_n32, u2_self, u2_n, mk_I, mk_T, ne_eq, not_true_eq_false, not_false_eq_true, ]; first | done | omega)) ?_
      with_reducible refine ok_ip (by first | assumption | omega | (simp (disch := omega) only [n32_of, neg_n32_1, n32_nat, n32_lt, n32_le, n32_eq, n32_add, n32_sub, n32_mul, n32_m1, m1_n32, n32_addm1, m1_lt, lt_m1, m1_le, le_m1, m1_add1, ofNat_n32, u2_self, u2_n, mk_I, mk_T, ne_eq, not_true_eq_false, not_false_eq_true, ]; first | done | omega)) ?_
      unfold J_X12_relation_54
      by_cases hk : k1 < 400
      · rw [r_next g11 hk]
        refine ok_oB (ok_some ?_)
        rw [run_rel htk.1 htk.2 o1 hk] at run1
        have eC : rCd C (c ++ ws) = rCd (cRel C (c ++ ws) (tTk b len k1 - 20)) [] := by
          show frc (xR C) ++ (xV C ++ (frl (xL C) ++ (xE C ++ (c ++ ws)))) = frc (xR C) ++ (xV C ++ (frl (xL C) ++ ((c ++ ws) ++ [])))
          rw [e0]
          simp
        have ef : eqE pg f (u2 f1 235 11 (n32 (k1 + 1))) := eqE_tr e1 (eqE_u (by omega))
        have h32 : u2 f1 235 11 (n32 (k1 + 1)) 235 32 = n32 (500 * pg + (rCd C (c ++ ws)).length) := (u2_n (by omega)).trans hZ1.1.1
        have hsg : segR (u2 f1 235 11 (n32 (k1 + 1))) (500 * pg) (rCd C (c ++ ws)) := segR_cg hZ1.1.2 (fun j => u2_n (by omega)) (fun j => u2_n (by omega))
        have e32' : aI (mk σ (u2 f1 235 11 (n32 (k1 + 1)))) 235 32 = n32 (500 * pg + (rCd C (c ++ ws)).length) := h32
        rw [e32']
        rw [eC] at h32 hsg
        have P2 := PI_rel P1 hk o1 (s := tTk b len k1 - 20) (by omega)
        refine ok_oB (ok_mono (r_expr hN hpg (TR_E hTR ef) P2 (fun j hj' => ?_) run1 ⟨u2_self, (u2_n (by omega)).trans g12, (u2_n (by omega)).trans g13⟩ h32 hsg) (fun u σ' hq => ?_))
        · by_cases ej : j = k1
          · rw [ej]; omega
          · exact j1 j (by omega)
        obtain ⟨f2, rfl, e2, hq⟩ := hq
        have e02 := eqE_tr ef e2
        rcases hq with hF | ⟨k2, c2, ws2, lk2, P3, o2, j2, run2, n2, ⟨w11, w12, w13⟩, hZ2⟩
        · refine ok_in (RF_ne hF).1 ?_
          exact ok_some ⟨f2, rfl, eqR_E e02, Or.inl hF⟩
        · obtain ⟨⟨r1, r2, r3⟩, r4, r5, r6⟩ := RQ_E hQ e02
          obtain ⟨r7, r8, r9⟩ := r6 (by omega)
          obtain ⟨r10, r11⟩ := r5 (by omega)
          have tot2 := P3.2.2.2.2
          have hk2 := P3.1
          have tl1 := nrl_le (xR C)
          have tl2 := wl2_len (xL C)
          have eT : tot 2 (cRel C (c ++ ws) (tTk b len k1 - 20)) c2 ws2 = wtr (xR C) + (xV C).length + wl2 (xL C) + 2 + (c ++ ws).length + c2.length + ws2.length := rfl
          have hm : nrl (xR C) + (xL C).length < 200 := by omega
          have w32 := hZ2.1.1
          have hkk : k < k2 := by omega
          have lenL : (rCd C []).length = (frc (xR C)).length + (xV C).length + (frl (xL C)).length := by
            unfold rCd
            rw [e0]
            simp
            omega
          have lenM : (rCd C (c ++ ws)).length = (frc (xR C)).length + (xV C).length + (frl (xL C)).length + (c ++ ws).length := by
            unfold rCd
            rw [e0]
            simp
            omega
          have lenR : (rCd (cRel C (c ++ ws) (tTk b len k1 - 20)) (c2 ++ ws2)).length = (frc (xR C)).length + (xV C).length + (frl (xL C)).length + (c ++ ws).length + (c2 ++ ws2).length := by
            show (frc (xR C) ++ (xV C ++ (frl (xL C) ++ ((c ++ ws) ++ (c2 ++ ws2))))).length = _
            simp
            omega
          with_reducible refine ok_ip (by first | assumption | omega | (simp (disch := omega) only [n32_of, neg_n32_1, n32_nat, n32_lt, n32_le, n32_eq, n32_add, n32_sub, n32_mul, n32_m1, m1_n32, n32_addm1, m1_lt, lt_m1, m1_le, le_m1, m1_add1, ofNat_n32, u2_self, u2_n, mk_I, mk_T, ne_eq, not_true_eq_false, not_false_eq_true, w13]; first | done | omega)) ?_
          repeat (first | with_reducible refine ok_W ?_ | with_reducible refine ok_cO (by first | assumption | omega | (simp (disch := omega) only [n32_of, neg_n32_1, n32_nat, n32_lt, n32_le, n32_eq, n32_add, n32_sub, n32_mul, n32_m1, m1_n32, n32_addm1, m1_lt, lt_m1, m1_le, le_m1, m1_add1, ofNat_n32, u2_self, u2_n, mk_I, mk_T, ne_eq, not_true_eq_false, not_false_eq_true, r3, r2]; first | done | omega)) ?_ | with_reducible refine ok_ip (by first | assumption | omega | (simp (disch := omega) only [n32_of, neg_n32_1, n32_nat, n32_lt, n32_le, n32_eq, n32_add, n32_sub, n32_mul, n32_m1, m1_n32, n32_addm1, m1_lt, lt_m1, m1_le, le_m1, m1_add1, ofNat_n32, u2_self, u2_n, mk_I, mk_T, ne_eq, not_true_eq_false, not_false_eq_true, r3, r2]; first | done | omega)) ?_ | with_reducible refine ok_in (by first | assumption | omega | (simp (disch := omega) only [n32_of, neg_n32_1, n32_nat, n32_lt, n32_le, n32_eq, n32_add, n32_sub, n32_mul, n32_m1, m1_n32, n32_addm1, m1_lt, lt_m1, m1_le, le_m1, m1_add1, ofNat_n32, u2_self, u2_n, mk_I, mk_T, ne_eq, not_true_eq_false, not_false_eq_true, r3, r2]; first | done | omega)) ?_)
          simp (disch := omega) only [n32_of, neg_n32_1, n32_nat, n32_lt, n32_le, n32_eq, n32_add, n32_sub, n32_mul, n32_m1, m1_n32, n32_addm1, m1_lt, lt_m1, m1_le, le_m1, m1_add1, ofNat_n32, u2_self, u2_n, mk_I, mk_T, r3, r2, w32, nar_bB]
          refine ok_some ⟨_, rfl, fun a j q1 q2 q3 q4 q5 q6 => ?_, Or.inr ⟨k2, cRel C (c ++ ws) (tTk b len k1 - 20), c2, ws2, rfl, hkk, P3, o2, j2, run2, n2, ⟨?_, ?_, ?_⟩, ⟨?_, segR_cg hZ2.1.2 (fun j => ?_) (fun j => ?_)⟩, ⟨⟨?_, ?_, ?_⟩, RRs_cg _ _ _ _ r4 (fun a j q1 q2 q3 q4 => ?_) (fun a j q1 q2 q3 q4 => ?_), fun _ => ⟨?_, ?_⟩, fun _ => ⟨?_, ?_, RLs_app _ _ _ (RLs_cg _ _ _ r9 (fun a j q1 q2 q3 q4 => ?_)) ⟨⟨?_, ?_, ?_, ?_, ?_⟩, trivial⟩⟩⟩⟩⟩
          · simp (disch := omega) only [n32_of, neg_n32_1, n32_nat, n32_lt, n32_le, n32_eq, n32_add, n32_sub, n32_mul, n32_m1, m1_n32, n32_addm1, m1_lt, lt_m1, m1_le, le_m1, m1_add1, ofNat_n32, u2_self, u2_n, mk_I, mk_T, ]
            exact e02 a j q1 q2 q3
          · simp (disch := omega) only [n32_of, neg_n32_1, n32_nat, n32_lt, n32_le, n32_eq, n32_add, n32_sub, n32_mul, n32_m1, m1_n32, n32_addm1, m1_lt, lt_m1, m1_le, le_m1, m1_add1, ofNat_n32, u2_self, u2_n, mk_I, mk_T, ]
            exact w11
          · simp (disch := omega) only [n32_of, neg_n32_1, n32_nat, n32_lt, n32_le, n32_eq, n32_add, n32_sub, n32_mul, n32_m1, m1_n32, n32_addm1, m1_lt, lt_m1, m1_le, le_m1, m1_add1, ofNat_n32, u2_self, u2_n, mk_I, mk_T, ]
            exact w12
          · simp (disch := omega) only [n32_of, neg_n32_1, n32_nat, n32_lt, n32_le, n32_eq, n32_add, n32_sub, n32_mul, n32_m1, m1_n32, n32_addm1, m1_lt, lt_m1, m1_le, le_m1, m1_add1, ofNat_n32, u2_self, u2_n, mk_I, mk_T, ]
            exact w13
          · simp (disch := omega) only [n32_of, neg_n32_1, n32_nat, n32_lt, n32_le, n32_eq, n32_add, n32_sub, n32_mul, n32_m1, m1_n32, n32_addm1, m1_lt, lt_m1, m1_le, le_m1, m1_add1, ofNat_n32, u2_self, u2_n, mk_I, mk_T, ]
            exact w32
          · simp (disch := omega) only [n32_of, neg_n32_1, n32_nat, n32_lt, n32_le, n32_eq, n32_add, n32_sub, n32_mul, n32_m1, m1_n32, n32_addm1, m1_lt, lt_m1, m1_le, le_m1, m1_add1, ofNat_n32, u2_self, u2_n, mk_I, mk_T, ]
          · simp (disch := omega) only [n32_of, neg_n32_1, n32_nat, n32_lt, n32_le, n32_eq, n32_add, n32_sub, n32_mul, n32_m1, m1_n32, n32_addm1, m1_lt, lt_m1, m1_le, le_m1, m1_add1, ofNat_n32, u2_self, u2_n, mk_I, mk_T, ]
          · simp (disch := omega) only [n32_of, neg_n32_1, n32_nat, n32_lt, n32_le, n32_eq, n32_add, n32_sub, n32_mul, n32_m1, m1_n32, n32_addm1, m1_lt, lt_m1, m1_le, le_m1, m1_add1, ofNat_n32, u2_self, u2_n, mk_I, mk_T, ]
            exact r1
          · rw [u2_self]
            show _ = n32 (nrl (xR C) + (xL C ++ [_]).length)
            rw [List.length_append, List.length_singleton, Nat.add_assoc]
          · simp (disch := omega) only [n32_of, neg_n32_1, n32_nat, n32_lt, n32_le, n32_eq, n32_add, n32_sub, n32_mul, n32_m1, m1_n32, n32_addm1, m1_lt, lt_m1, m1_le, le_m1, m1_add1, ofNat_n32, u2_self, u2_n, mk_I, mk_T, ]
            exact r3
          · simp (disch := omega) only [n32_of, neg_n32_1, n32_nat, n32_lt, n32_le, n32_eq, n32_add, n32_sub, n32_mul, n32_m1, m1_n32, n32_addm1, m1_lt, lt_m1, m1_le, le_m1, m1_add1, ofNat_n32, u2_self, u2_n, mk_I, mk_T, ]
          · have q4 : j < 200 * pg + 0 + nrl (xR C) := q4
            simp (disch := omega) only [n32_of, neg_n32_1, n32_nat, n32_lt, n32_le, n32_eq, n32_add, n32_sub, n32_mul, n32_m1, m1_n32, n32_addm1, m1_lt, lt_m1, m1_le, le_m1, m1_add1, ofNat_n32, u2_self, u2_n, mk_I, mk_T, ]
          · simp (disch := omega) only [n32_of, neg_n32_1, n32_nat, n32_lt, n32_le, n32_eq, n32_add, n32_sub, n32_mul, n32_m1, m1_n32, n32_addm1, m1_lt, lt_m1, m1_le, le_m1, m1_add1, ofNat_n32, u2_self, u2_n, mk_I, mk_T, ]
            exact r10
          · simp (disch := omega) only [n32_of, neg_n32_1, n32_nat, n32_lt, n32_le, n32_eq, n32_add, n32_sub, n32_mul, n32_m1, m1_n32, n32_addm1, m1_lt, lt_m1, m1_le, le_m1, m1_add1, ofNat_n32, u2_self, u2_n, mk_I, mk_T, ]
            exact r11
          · simp (disch := omega) only [n32_of, neg_n32_1, n32_nat, n32_lt, n32_le, n32_eq, n32_add, n32_sub, n32_mul, n32_m1, m1_n32, n32_addm1, m1_lt, lt_m1, m1_le, le_m1, m1_add1, ofNat_n32, u2_self, u2_n, mk_I, mk_T, ]
            exact r7
          · simp (disch := omega) only [n32_of, neg_n32_1, n32_nat, n32_lt, n32_le, n32_eq, n32_add, n32_sub, n32_mul, n32_m1, m1_n32, n32_addm1, m1_lt, lt_m1, m1_le, le_m1, m1_add1, ofNat_n32, u2_self, u2_n, mk_I, mk_T, ]
            exact r8
          · have q4 : j < 200 * pg + nrl (xR C) + (xL C).length := q4
            simp (disch := omega) only [n32_of, neg_n32_1, n32_nat, n32_lt, n32_le, n32_eq, n32_add, n32_sub, n32_mul, n32_m1, m1_n32, n32_addm1, m1_lt, lt_m1, m1_le, le_m1, m1_add1, ofNat_n32, u2_self, u2_n, mk_I, mk_T, ]
          · show _ = n32 (tTk b len k1 - 20)
            rw [show 200 * pg + nrl (xR (cCon (cRel C (c ++ ws) (tTk b len k1 - 20)) (c2 ++ ws2) true)) + (xL (cRel C (c ++ ws) (tTk b len k1 - 20))).length = 200 * pg + (nrl (xR C) + (xL C).length) from Nat.add_assoc _ _ _]
            simp (disch := omega) only [n32_of, neg_n32_1, n32_nat, n32_lt, n32_le, n32_eq, n32_add, n32_sub, n32_mul, n32_m1, m1_n32, n32_addm1, m1_lt, lt_m1, m1_le, le_m1, m1_add1, ofNat_n32, u2_self, u2_n, mk_I, mk_T, ]
          · show _ = n32 (500 * pg + (frc (xR C)).length + (xV C).length + (frl (xL C)).length)
            rw [show 200 * pg + nrl (xR (cCon (cRel C (c ++ ws) (tTk b len k1 - 20)) (c2 ++ ws2) true)) + (xL (cRel C (c ++ ws) (tTk b len k1 - 20))).length = 200 * pg + (nrl (xR C) + (xL C).length) from Nat.add_assoc _ _ _, show 500 * pg + (frc (xR C)).length + (xV C).length + (frl (xL C)).length = 500 * pg + (rCd C []).length by rw [lenL]; omega]
            simp (disch := omega) only [n32_of, neg_n32_1, n32_nat, n32_lt, n32_le, n32_eq, n32_add, n32_sub, n32_mul, n32_m1, m1_n32, n32_addm1, m1_lt, lt_m1, m1_le, le_m1, m1_add1, ofNat_n32, u2_self, u2_n, mk_I, mk_T, ]
          · show _ = n32 (500 * pg + (frc (xR C)).length + (xV C).length + (frl (xL C)).length + (c ++ ws).length)
            rw [show 200 * pg + nrl (xR (cCon (cRel C (c ++ ws) (tTk b len k1 - 20)) (c2 ++ ws2) true)) + (xL (cRel C (c ++ ws) (tTk b len k1 - 20))).length = 200 * pg + (nrl (xR C) + (xL C).length) from Nat.add_assoc _ _ _, show 500 * pg + (frc (xR C)).length + (xV C).length + (frl (xL C)).length + (c ++ ws).length = 500 * pg + (rCd C (c ++ ws)).length by rw [lenM]; omega]
            simp (disch := omega) only [n32_of, neg_n32_1, n32_nat, n32_lt, n32_le, n32_eq, n32_add, n32_sub, n32_mul, n32_m1, m1_n32, n32_addm1, m1_lt, lt_m1, m1_le, le_m1, m1_add1, ofNat_n32, u2_self, u2_n, mk_I, mk_T, ]
          · show _ = n32 (500 * pg + (frc (xR C)).length + (xV C).length + (frl (xL C)).length + (c ++ ws).length + (c2 ++ ws2).length)
            rw [show 200 * pg + nrl (xR (cCon (cRel C (c ++ ws) (tTk b len k1 - 20)) (c2 ++ ws2) true)) + (xL (cRel C (c ++ ws) (tTk b len k1 - 20))).length = 200 * pg + (nrl (xR C) + (xL C).length) from Nat.add_assoc _ _ _, show 500 * pg + (frc (xR C)).length + (xV C).length + (frl (xL C)).length + (c ++ ws).length + (c2 ++ ws2).length = 500 * pg + (rCd (cRel C (c ++ ws) (tTk b len k1 - 20)) (c2 ++ ws2)).length by rw [lenR]; omega]
            simp (disch := omega) only [n32_of, neg_n32_1, n32_nat, n32_lt, n32_le, n32_eq, n32_add, n32_sub, n32_mul, n32_m1, m1_n32, n32_addm1, m1_lt, lt_m1, m1_le, le_m1, m1_add1, ofNat_n32, u2_self, u2_n, mk_I, mk_T, ]
          · show _ = bB (xO C)
            rw [show 200 * pg + nrl (xR (cCon (cRel C (c ++ ws) (tTk b len k1 - 20)) (c2 ++ ws2) true)) + (xL (cRel C (c ++ ws) (tTk b len k1 - 20))).length = 200 * pg + (nrl (xR C) + (xL C).length) from Nat.add_assoc _ _ _]
            simp (disch := omega) only [n32_of, neg_n32_1, n32_nat, n32_lt, n32_le, n32_eq, n32_add, n32_sub, n32_mul, n32_m1, m1_n32, n32_addm1, m1_lt, lt_m1, m1_le, le_m1, m1_add1, ofNat_n32, u2_self, u2_n, mk_I, mk_T, ]
      · have ek : k1 = 400 := by omega
        subst ek
        rw [r_next4 g13 g11]
        refine ok_oB (ok_some ?_)
        rw [run_room (by omega) (by omega) (by omega)] at run1
        refine ok_oB (ok_mono (r_exprF (pg := pg) hN (RF_2 (O := O) x2 (Or.inr rfl) run1.symm)) (fun u σ' hq => ?_))
        obtain ⟨f2, rfl, e5, h5⟩ := hq
        refine ok_in (RF_ne h5).1 ?_
        exact ok_some ⟨f2, rfl, eqR_E (eqE_tr e1 (eqE_tr eqE_f e5)), Or.inl h5⟩
    · have hbad : ¬ fit 2 1 (opn ws) (tTk b len k1) := by omega
      rw [run_bad hbad] at run1
      have go : ∀ s : Int32, Ok (J_X12_relation_49 N (bB (xO C)) (n32 (500 * pg + (rCd C []).length)) s (mk σ f1)) (fun _ σ' => ∃ f', σ' = mk σ f' ∧ eqR pg f f' ∧ (RF O f' ∨ reOK b len pg O (xR C) k f')) := by
        intro s
        unfold J_X12_relation_49
        rw [show (1 : Int32) = n32 1 from rfl, r_fail g13 g11 b3]
        refine ok_oB (ok_some ?_)
        refine ok_mono (r_54F (pg := pg) hN (RF_2 (O := O) x2 (Or.inl rfl) run1.symm)) (fun u σ' hq => ?_)
        obtain ⟨f2, q1, q2, q3⟩ := hq
        exact ⟨f2, q1, eqR_E (eqE_tr e1 (eqE_tr eqE_f q2)), Or.inl q3⟩
      by_cases h11 : x < 11
      · have hd : ∀ x, x < 11 → n32 x - 11 < 0 := by decide +kernel
        refine ok_ip (hd x h11) ?_
        exact go _
      · have ex2 : n32 x - 11 = n32 (x - 11) := by rw [show (11 : Int32) = n32 11 from rfl, n32_sub (by omega)]
        rw [ex2]
        with_reducible refine ok_in (by first | assumption | omega | (simp (disch := omega) only [n32_of, neg_n32_1, n32_nat, n32_lt, n32_le, n32_eq, n32_add, n32_sub, n32_mul, n32_m1, m1_n32, n32_addm1, m1_lt, lt_m1, m1_le, le_m1, m1_add1, ofNat_n32, u2_self, u2_n, mk_I, mk_T, ne_eq, not_true_eq_false, not_false_eq_true, ]; first | done | omega)) ?_
        with_reducible refine ok_in (by first | assumption | omega | (simp (disch := omega) only [n32_of, neg_n32_1, n32_nat, n32_lt, n32_le, n32_eq, n32_add, n32_sub, n32_mul, n32_m1, m1_n32, n32_addm1, m1_lt, lt_m1, m1_le, le_m1, m1_add1, ofNat_n32, u2_self, u2_n, mk_I, mk_T, ne_eq, not_true_eq_false, not_false_eq_true, ]; first | done | omega)) ?_
        exact go _
end RRL
