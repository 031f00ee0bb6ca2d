def vof (v : Nat → Int32) (w : Nat) (d : Int32) : List Ru → Int32
  | [] => d
  | u :: rs => if u.1 = w ∧ hol v u.2.2 = true then val v u.2.1 else vof v w d rs
theorem fst_vof (v : Nat → Int32) (w : Nat) (d : Int32) : ∀ (rs : List Ru) (i : Nat), (fst v w rs i = m1 ∧ vof v w d rs = d) ∨ ∃ j u, rs[j]? = some u ∧ fst v w rs i = n32 (i + j) ∧ vof v w d rs = val v u.2.1 := by
  intro rs
  induction rs with
  | nil => intro i; exact Or.inl ⟨rfl, rfl⟩
  | cons u rs ih =>
    intro i
    rw [fst, vof]
    by_cases h : u.1 = w ∧ hol v u.2.2 = true
    · rw [if_pos h, if_pos h]
      exact Or.inr ⟨0, u, rfl, rfl, rfl⟩
    · rw [if_neg h, if_neg h]
      rcases ih (i + 1) with ⟨h1, h2⟩ | ⟨j, u', h1, h2, h3⟩
      · exact Or.inl ⟨h1, h2⟩
      · exact Or.inr ⟨j + 1, u', h1, by rw [h2]; congr 1; omega, h3⟩
theorem x_firstF {N t w : Nat} {σ : aSt} {rs : List Ru} {f : Nat → Nat → Int32} (hN : 1000 ≤ N) (ht : t + 6 ≠ 22) (hok : okT rs) (hw : w < 3) (hX : XT f t rs) : Ok (F_X10_firstThatHolds N t (n32 w) (mk σ f)) (fun y σ' => y = fst (f 22) w rs 0 ∧ ∃ f', σ' = mk σ f' ∧ eqx f f' (t + 6)) := by
  unfold F_X10_firstThatHolds
  have := hok.1
  exact x_first hN ht hok hw N 0 f (by omega) (by omega) hX
theorem x_voe {N t w : Nat} {d : Int32} {σ : aSt} {rs : List Ru} {f : Nat → Nat → Int32} (hN : 1000 ≤ N) (ht : t + 6 ≠ 22) (hok : okT rs) (hw : w < 3) (hX : XT f t rs) : Ok (F_X10_valueOrElse N t (n32 w) d (mk σ f)) (fun y σ' => y = vof (f 22) w d rs ∧ ∃ f', σ' = mk σ f' ∧ eqx f f' (t + 6)) := by
  unfold F_X10_valueOrElse J_X10_valueOrElse_37
  refine ok_bind (x_firstF hN ht hok hw hX) (fun y σ1 hq => ?_)
  obtain ⟨rfl, f1, rfl, he⟩ := hq
  have e22 : f1 22 = f 22 := by
    funext k
    exact he 22 k (by omega)
  rcases fst_vof (f 22) w d rs 0 with ⟨h1, h2⟩ | ⟨j, u, h1, h2, h3⟩
  · rw [h1, h2]
    with_reducible refine ok_in ?_ ?_
    · exact fun h => h rfl
    exact ok_some ⟨rfl, f1, rfl, he⟩
  · rw [h2, h3, Nat.zero_add]
    have hl := hok.1
    have hj := (List.getElem?_eq_some_iff.mp h1).1
    have hku := hok.2 u (List.mem_of_getElem? h1)
    obtain ⟨x0, cl, x1, x2, x3⟩ := XT_x hX he (by omega)
    obtain ⟨p, y1, y2, y3, y4, y5, y6, y7⟩ := x3 j u h1
    with_reducible refine ok_ip (by first | assumption | omega | (simp (disch := omega) only [n32_of, neg_n32_1, n32_nat, n32_lt, n32_le, n32_eq, n32_add, n32_sub, n32_mul, n32_m1, m1_n32, n32_addm1, m1_lt, lt_m1, m1_le, le_m1, m1_add1, ofNat_n32, u2_self, u2_n, mk_I, mk_T, ne_eq, not_true_eq_false, not_false_eq_true, ]; first | done | omega)) ?_
    with_reducible refine ok_cO (by first | assumption | omega | (simp (disch := omega) only [n32_of, neg_n32_1, n32_nat, n32_lt, n32_le, n32_eq, n32_add, n32_sub, n32_mul, n32_m1, m1_n32, n32_addm1, m1_lt, lt_m1, m1_le, le_m1, m1_add1, ofNat_n32, u2_self, u2_n, mk_I, mk_T, ne_eq, not_true_eq_false, not_false_eq_true, ]; first | done | omega)) ?_
    with_reducible refine ok_cO (by first | assumption | omega | (simp (disch := omega) only [n32_of, neg_n32_1, n32_nat, n32_lt, n32_le, n32_eq, n32_add, n32_sub, n32_mul, n32_m1, m1_n32, n32_addm1, m1_lt, lt_m1, m1_le, le_m1, m1_add1, ofNat_n32, u2_self, u2_n, mk_I, mk_T, ne_eq, not_true_eq_false, not_false_eq_true, ]; first | done | omega)) ?_
    simp (disch := omega) only [n32_of, neg_n32_1, n32_nat, n32_lt, n32_le, n32_eq, n32_add, n32_sub, n32_mul, n32_m1, m1_n32, n32_addm1, m1_lt, lt_m1, m1_le, le_m1, m1_add1, ofNat_n32, u2_self, u2_n, mk_I, mk_T, y2, y3]
    refine ok_bind (x_compute hN ht x1 x2 y6 (by omega) (one_wf hku.2.1.1 (by omega)) (fun v g => (one_ev hku.2.1.1 0 g).1)) (fun y σ2 hq => ?_)
    obtain ⟨rfl, f2, rfl, he2⟩ := hq
    rw [e22]
    exact ok_some ⟨rfl, f2, rfl, fun b k hb => (he2 b k hb).trans (he b k hb)⟩
-- the reference
def RLq (f : Nat → Nat → Int32) (i : Nat) (q : Rl) : Prop := ∃ p, f 251 i = n32 q.2.1 ∧ f 252 i = n32 p ∧ f 253 i = n32 (p + q.2.2.1.length) ∧ f 254 i = n32 (p + q.2.2.1.length + q.2.2.2.length) ∧ f 255 i = bB q.1 ∧ segR f p q.2.2.1 ∧ segR f (p + q.2.2.1.length) q.2.2.2 ∧ p + q.2.2.1.length + q.2.2.2.length ≤ 7000
def RR (f : Nat → Nat → Int32) (pg r : Nat) (u : Ru) : Prop := ∃ p a, f 245 (20 * pg + r) = n32 u.1 ∧ f 246 (20 * pg + r) = n32 p ∧ f 247 (20 * pg + r) = n32 (p + u.2.1.length) ∧ segR f p u.2.1 ∧ p + u.2.1.length ≤ 7000 ∧ f 248 (20 * pg + r) = n32 a ∧ f 249 (20 * pg + r) = n32 (a + u.2.2.length) ∧ a + u.2.2.length ≤ 200 ∧ ∀ k q, u.2.2[k]? = some q → RLq f (200 * pg + a + k) q
def RT (f : Nat → Nat → Int32) (pg : Nat) (rs : List Ru) : Prop := f 244 pg = n32 rs.length ∧ ∀ r u, rs[r]? = some u → RR f pg r u
theorem RLq_x {f f' : Nat → Nat → Int32} {a i : Nat} {q : Rl} (h : RLq f i q) (e : eqx f f' a) (ha : a < 244 ∨ 257 < a) : RLq f' i q := by
  obtain ⟨p, h1, h2, h3, h4, h5, h6, h7, h8⟩ := h
  exact ⟨p, (e _ _ (by omega)).trans h1, (e _ _ (by omega)).trans h2, (e _ _ (by omega)).trans h3, (e _ _ (by omega)).trans h4, (e _ _ (by omega)).trans h5, segR_cg h6 (fun k => e _ k (by omega)) (fun k => e _ k (by omega)), segR_cg h7 (fun k => e _ k (by omega)) (fun k => e _ k (by omega)), h8⟩
theorem RT_x {f f' : Nat → Nat → Int32} {a pg : Nat} {rs : List Ru} (h : RT f pg rs) (e : eqx f f' a) (ha : a < 244 ∨ 257 < a) : RT f' pg rs := by
  obtain ⟨h1, h2⟩ := h
  refine ⟨(e _ _ (by omega)).trans h1, fun r u hu => ?_⟩
  obtain ⟨p, b, g1, g2, g3, g4, g5, g6, g7, g8, g9⟩ := h2 r u hu
  exact ⟨p, b, (e _ _ (by omega)).trans g1, (e _ _ (by omega)).trans g2, (e _ _ (by omega)).trans g3, segR_cg g4 (fun k => e _ k (by omega)) (fun k => e _ k (by omega)), g5, (e _ _ (by omega)).trans g6, (e _ _ (by omega)).trans g7, g8, fun k q hq => RLq_x (g9 k q hq) e ha⟩
theorem r_value {N p : Nat} {σ : aSt} {f : Nat → Nat → Int32} {c : List Nat} (hN : 10000 ≤ N) (hs : segR f p c) (hp : p + c.length ≤ 7000) (h1 : one c) (ha : arc c) : Ok (F_X12_value N (n32 p) (n32 (p + c.length)) (mk σ f)) (fun y σ' => y = val (f 274) c ∧ ∃ f', σ' = mk σ f' ∧ eqx f f' 275) := by
  unfold F_X12_value
  refine ok_mono (r_val hp c N p 0 f (fun _ => 0) (by omega) hs rfl h1.1.1 ha (by omega) (fun k hk => absurd hk (Nat.not_lt_zero k))) (fun y σ' hq => ?_)
  rw [h1.2] at hq
  exact ⟨hq.1 Nat.one_pos, hq.2⟩
theorem bB_z {b : Bool} : (bB b = n32 0) = (b = false) := by
  cases b
  · simp [bB]
  · simp only [bB, if_true]
    simp (disch := omega) only [n32_of, neg_n32_1, n32_nat, n32_lt, n32_le, n32_eq, n32_add, n32_sub, n32_mul, n32_m1, m1_n32, n32_addm1, m1_lt, lt_m1, m1_le, le_m1, m1_add1, ofNat_n32, u2_self, u2_n, mk_I, mk_T, ]
    simp
theorem nar_bB {b : Bool} : vp_nar .boolean (bB b) = bB b := by cases b <;> decide
theorem rb_sort {v : Nat → Int32} {q : Rl} (h : okL q) {a b : Int32} (ha : a = val v q.2.2.1) (hb : b = val v q.2.2.2) : (q.2.1 = 0 ∧ (rb v q = decide (a = b))) ∨ (q.2.1 = 1 ∧ (rb v q = decide (a ≠ b))) ∨ (q.2.1 = 2 ∧ (rb v q = decide (a < b))) ∨ (q.2.1 = 3 ∧ (rb v q = decide (a ≤ b))) := by
  subst ha hb
  have h4 := h.1
  unfold rb
  rcases (show q.2.1 = 0 ∨ q.2.1 = 1 ∨ q.2.1 = 2 ∨ q.2.1 = 3 by omega) with e | e | e | e
  · refine Or.inl ⟨e, ?_⟩
    rw [e]
    show decide (bI _ = n32 1) = _
    congr 1
    exact bI_o
  · refine Or.inr (Or.inl ⟨e, ?_⟩)
    rw [e]
    show decide (bI _ = n32 1) = _
    congr 1
    exact bI_o
  · refine Or.inr (Or.inr (Or.inl ⟨e, ?_⟩))
    rw [e]
    show decide (bI _ = n32 1) = _
    congr 1
    exact bI_o
  · refine Or.inr (Or.inr (Or.inr ⟨e, ?_⟩))
    rw [e]
    show decide (bI _ = n32 1) = _
    congr 1
    exact bI_o
theorem r_holds {N R pg a : Nat} {σ : aSt} {rs : List Rl} (hN : 10000 ≤ N) (hR : R < 280) (hpg : pg < 14) (hrs : ∀ q ∈ rs, okL q) (ha : a + rs.length ≤ 200) : ∀ (n k : Nat) (A : Bool) (f : Nat → Nat → Int32), rs.length < n + k → k ≤ rs.length → f 249 R = n32 (a + rs.length) → (∀ k q, rs[k]? = some q → RLq f (200 * pg + a + k) q) → Ok (H_X12_holds_27 N n (n32 R) (n32 pg) (bB A) (n32 (a + k)) (mk σ f)) (fun y σ' => y = bB (hr (f 274) (rs.drop k) A) ∧ ∃ f', σ' = mk σ f' ∧ eqx f f' 275) := by
  intro n
  induction n with
  | zero => intro k A f h1 h2; omega
  | succ n ih =>
    intro k A f h1 h2 h3 h4
    rw [H_X12_holds_27]
    with_reducible refine ok_cO (by first | assumption | omega | (simp (disch := omega) only [n32_of, neg_n32_1, n32_nat, n32_lt, n32_le, n32_eq, n32_add, n32_sub, n32_mul, n32_m1, m1_n32, n32_addm1, m1_lt, lt_m1, m1_le, le_m1, m1_add1, ofNat_n32, u2_self, u2_n, mk_I, mk_T, ne_eq, not_true_eq_false, not_false_eq_true, ]; first | done | omega)) ?_
    by_cases hk : rs.length ≤ k
    · with_reducible refine ok_ip (by first | assumption | omega | (simp (disch := omega) only [n32_of, neg_n32_1, n32_nat, n32_lt, n32_le, n32_eq, n32_add, n32_sub, n32_mul, n32_m1, m1_n32, n32_addm1, m1_lt, lt_m1, m1_le, le_m1, m1_add1, ofNat_n32, u2_self, u2_n, mk_I, mk_T, ne_eq, not_true_eq_false, not_false_eq_true, h3]; first | done | omega)) ?_
      with_reducible refine ok_cO ?_ ?_
      · exact nar_bB
      refine ok_some ⟨?_, f, rfl, fun _ _ _ => rfl⟩
      rw [List.drop_eq_nil_of_le hk]
      rfl
    · with_reducible refine ok_in (by first | assumption | omega | (simp (disch := omega) only [n32_of, neg_n32_1, n32_nat, n32_lt, n32_le, n32_eq, n32_add, n32_sub, n32_mul, n32_m1, m1_n32, n32_addm1, m1_lt, lt_m1, m1_le, le_m1, m1_add1, ofNat_n32, u2_self, u2_n, mk_I, mk_T, ne_eq, not_true_eq_false, not_false_eq_true, h3]; first | done | omega)) ?_
      have hlt : k < rs.length := by omega
      have hget : rs[k]? = some rs[k] := List.getElem?_eq_getElem hlt
      generalize hq0 : rs[k] = q at hget
      have hok := hrs q (List.mem_of_getElem? hget)
      have hdrop : rs.drop k = q :: rs.drop (k + 1) := by rw [List.drop_eq_getElem_cons hlt, hq0]
      rw [hdrop, hr]
      obtain ⟨p, y1, y2, y3, y4, y5, y6, y7, y8⟩ := h4 k q hget
      rw [Nat.add_assoc] at y1 y2 y3 y4 y5
      have hq4 := hok.1
      have next : ∀ (A' : Bool) (f1 : Nat → Nat → Int32), eqx f f1 275 → Ok (H_X12_holds_27 N n (n32 R) (n32 pg) (bB A') (n32 (a + k) + 1) (mk σ f1)) (fun y σ' => y = bB (hr (f 274) (rs.drop (k + 1)) A') ∧ ∃ f', σ' = mk σ f' ∧ eqx f f' 275) := by
        intro A' f1 he
        rw [show n32 (a + k) + 1 = n32 (a + (k + 1)) from n32_add (a + k) 1]
        refine ok_mono (ih (k + 1) A' f1 (by omega) (by omega) ((he _ _ (by omega)).trans h3) (fun k q hq => RLq_x (h4 k q hq) he (by omega))) (fun y σ' hq => ?_)
        have e22 : f1 274 = f 274 := by
          funext k
          exact he 274 k (by omega)
        rw [e22] at hq
        exact ⟨hq.1, hq.2.choose, hq.2.choose_spec.1, fun b k hb => (hq.2.choose_spec.2 b k hb).trans (he b k hb)⟩
      with_reducible refine ok_cO (by first | assumption | omega | (simp (disch := omega) only [n32_of, neg_n32_1, n32_nat, n32_lt, n32_le, n32_eq, n32_add, n32_sub, n32_mul, n32_m1, m1_n32, n32_addm1, m1_lt, lt_m1, m1_le, le_m1, m1_add1, ofNat_n32, u2_self, u2_n, mk_I, mk_T, ne_eq, not_true_eq_false, not_false_eq_true, ]; first | done | omega)) ?_
      have eval : ∀ A' : Bool, Ok (J_X12_holds_76 N (H_X12_holds_27 N n) (n32 R) (n32 pg) (bB A') (n32 (a + k)) (n32 (200 * pg + (a + k))) (mk σ f)) (fun y σ' => y = bB (if A' then hr (f 274) (rs.drop (k + 1)) (rb (f 274) q) else hr (f 274) (rs.drop (k + 1)) false) ∧ ∃ f', σ' = mk σ f' ∧ eqx f f' 275) := by
        intro A'
        unfold J_X12_holds_76 J_X12_holds_212 J_X12_holds_213
        cases A'
        · with_reducible refine ok_in ?_ ?_
          · exact (fun h => h rfl)
          exact next false f (fun _ _ _ => rfl)
        · with_reducible refine ok_ip ?_ ?_
          · exact (by decide)
          with_reducible refine ok_cO (by first | assumption | omega | (simp (disch := omega) only [n32_of, neg_n32_1, n32_nat, n32_lt, n32_le, n32_eq, n32_add, n32_sub, n32_mul, n32_m1, m1_n32, n32_addm1, m1_lt, lt_m1, m1_le, le_m1, m1_add1, ofNat_n32, u2_self, u2_n, mk_I, mk_T, ne_eq, not_true_eq_false, not_false_eq_true, ]; first | done | omega)) ?_
          with_reducible refine ok_cO (by first | assumption | omega | (simp (disch := omega) only [n32_of, neg_n32_1, n32_nat, n32_lt, n32_le, n32_eq, n32_add, n32_sub, n32_mul, n32_m1, m1_n32, n32_addm1, m1_lt, lt_m1, m1_le, le_m1, m1_add1, ofNat_n32, u2_self, u2_n, mk_I, mk_T, ne_eq, not_true_eq_false, not_false_eq_true, ]; first | done | omega)) ?_
          simp (disch := omega) only [n32_of, neg_n32_1, n32_nat, n32_lt, n32_le, n32_eq, n32_add, n32_sub, n32_mul, n32_m1, m1_n32, n32_addm1, m1_lt, lt_m1, m1_le, le_m1, m1_add1, ofNat_n32, u2_self, u2_n, mk_I, mk_T, y2, y3]
          refine ok_bind (r_value hN y6 (by omega) hok.2.1.1 hok.2.1.2) (fun y σ1 hq => ?_)
          obtain ⟨hy, f1, rfl, he⟩ := hq
          have w3 := (he 253 (200 * pg + (a + k)) (by omega)).trans y3
          have w4 := (he 254 (200 * pg + (a + k)) (by omega)).trans y4
          repeat (first | with_reducible refine ok_W ?_ | with_reducible refine ok_cO (by first | assumption | omega | (simp (disch := omega) only [n32_of, neg_n32_1, n32_nat, n32_lt, n32_le, n32_eq, n32_add, n32_sub, n32_mul, n32_m1, m1_n32, n32_addm1, m1_lt, lt_m1, m1_le, le_m1, m1_add1, ofNat_n32, u2_self, u2_n, mk_I, mk_T, ne_eq, not_true_eq_false, not_false_eq_true, ]; first | done | omega)) ?_ | with_reducible refine ok_ip (by first | assumption | omega | (simp (disch := omega) only [n32_of, neg_n32_1, n32_nat, n32_lt, n32_le, n32_eq, n32_add, n32_sub, n32_mul, n32_m1, m1_n32, n32_addm1, m1_lt, lt_m1, m1_le, le_m1, m1_add1, ofNat_n32, u2_self, u2_n, mk_I, mk_T, ne_eq, not_true_eq_false, not_false_eq_true, ]; first | done | omega)) ?_ | with_reducible refine ok_in (by first | assumption | omega | (simp (disch := omega) only [n32_of, neg_n32_1, n32_nat, n32_lt, n32_le, n32_eq, n32_add, n32_sub, n32_mul, n32_m1, m1_n32, n32_addm1, m1_lt, lt_m1, m1_le, le_m1, m1_add1, ofNat_n32, u2_self, u2_n, mk_I, mk_T, ne_eq, not_true_eq_false, not_false_eq_true, ]; first | done | omega)) ?_)
          simp (disch := omega) only [n32_of, neg_n32_1, n32_nat, n32_lt, n32_le, n32_eq, n32_add, n32_sub, n32_mul, n32_m1, m1_n32, n32_addm1, m1_lt, lt_m1, m1_le, le_m1, m1_add1, ofNat_n32, u2_self, u2_n, mk_I, mk_T, w3, w4]
          have hs2 := segR_cg (f' := f1) y7 (fun k => he _ k (by omega)) (fun k => he _ k (by omega))
          refine ok_bind (r_value hN hs2 (by omega) hok.2.2.1 hok.2.2.2) (fun z σ2 hq => ?_)
          obtain ⟨hz, f2, rfl, he2⟩ := hq
          have e22 : f1 274 = f 274 := by
            funext k
            exact he 274 k (by omega)
          rw [e22] at hz
          have he12 : eqx f f2 275 := fun b k hb => (he2 b k hb).trans (he b k hb)
          have w1 := (he12 251 (200 * pg + (a + k)) (by omega)).trans y1
          have hf0 := next false f2 he12
          have hf1 := next true f2 he12
          have e1 : n32 (a + k) + 1 = n32 (a + k + 1) := n32_add (a + k) 1
          rw [e1] at hf0 hf1
          with_reducible refine ok_cO (by first | assumption | omega | (simp (disch := omega) only [n32_of, neg_n32_1, n32_nat, n32_lt, n32_le, n32_eq, n32_add, n32_sub, n32_mul, n32_m1, m1_n32, n32_addm1, m1_lt, lt_m1, m1_le, le_m1, m1_add1, ofNat_n32, u2_self, u2_n, mk_I, mk_T, ne_eq, not_true_eq_false, not_false_eq_true, ]; first | done | omega)) ?_
          rcases rb_sort hok hy hz with ⟨e, hb⟩ | ⟨e, hb⟩ | ⟨e, hb⟩ | ⟨e, hb⟩
          · rw [hb]
            with_reducible refine ok_in (by first | assumption | omega | (simp (disch := omega) only [n32_of, neg_n32_1, n32_nat, n32_lt, n32_le, n32_eq, n32_add, n32_sub, n32_mul, n32_m1, m1_n32, n32_addm1, m1_lt, lt_m1, m1_le, le_m1, m1_add1, ofNat_n32, u2_self, u2_n, mk_I, mk_T, ne_eq, not_true_eq_false, not_false_eq_true, w1, e]; first | done | omega)) ?_
            by_cases hd : y = z
            · with_reducible refine ok_in ?_ ?_
              · exact (fun h => h hd)
              rw [decide_eq_true hd]
              exact hf1
            · with_reducible refine ok_ip ?_ ?_
              · exact hd
              rw [decide_eq_false hd]
              exact hf0
          · rw [hb]
            with_reducible refine ok_ip (by first | assumption | omega | (simp (disch := omega) only [n32_of, neg_n32_1, n32_nat, n32_lt, n32_le, n32_eq, n32_add, n32_sub, n32_mul, n32_m1, m1_n32, n32_addm1, m1_lt, lt_m1, m1_le, le_m1, m1_add1, ofNat_n32, u2_self, u2_n, mk_I, mk_T, ne_eq, not_true_eq_false, not_false_eq_true, w1, e]; first | done | omega)) ?_
            with_reducible refine ok_cO (by first | assumption | omega | (simp (disch := omega) only [n32_of, neg_n32_1, n32_nat, n32_lt, n32_le, n32_eq, n32_add, n32_sub, n32_mul, n32_m1, m1_n32, n32_addm1, m1_lt, lt_m1, m1_le, le_m1, m1_add1, ofNat_n32, u2_self, u2_n, mk_I, mk_T, ne_eq, not_true_eq_false, not_false_eq_true, ]; first | done | omega)) ?_
            with_reducible refine ok_in (by first | assumption | omega | (simp (disch := omega) only [n32_of, neg_n32_1, n32_nat, n32_lt, n32_le, n32_eq, n32_add, n32_sub, n32_mul, n32_m1, m1_n32, n32_addm1, m1_lt, lt_m1, m1_le, le_m1, m1_add1, ofNat_n32, u2_self, u2_n, mk_I, mk_T, ne_eq, not_true_eq_false, not_false_eq_true, w1, e]; first | done | omega)) ?_
            by_cases hd : y = z
            · with_reducible refine ok_ip ?_ ?_
              · exact hd
              rw [decide_eq_false (fun h => h hd)]
              exact hf0
            · with_reducible refine ok_in ?_ ?_
              · exact hd
              rw [decide_eq_true hd]
              exact hf1
          · rw [hb]
            with_reducible refine ok_ip (by first | assumption | omega | (simp (disch := omega) only [n32_of, neg_n32_1, n32_nat, n32_lt, n32_le, n32_eq, n32_add, n32_sub, n32_mul, n32_m1, m1_n32, n32_addm1, m1_lt, lt_m1, m1_le, le_m1, m1_add1, ofNat_n32, u2_self, u2_n, mk_I, mk_T, ne_eq, not_true_eq_false, not_false_eq_true, w1, e]; first | done | omega)) ?_
            with_reducible refine ok_cO (by first | assumption | omega | (simp (disch := omega) only [n32_of, neg_n32_1, n32_nat, n32_lt, n32_le, n32_eq, n32_add, n32_sub, n32_mul, n32_m1, m1_n32, n32_addm1, m1_lt, lt_m1, m1_le, le_m1, m1_add1, ofNat_n32, u2_self, u2_n, mk_I, mk_T, ne_eq, not_true_eq_false, not_false_eq_true, ]; first | done | omega)) ?_
            with_reducible refine ok_ip (by first | assumption | omega | (simp (disch := omega) only [n32_of, neg_n32_1, n32_nat, n32_lt, n32_le, n32_eq, n32_add, n32_sub, n32_mul, n32_m1, m1_n32, n32_addm1, m1_lt, lt_m1, m1_le, le_m1, m1_add1, ofNat_n32, u2_self, u2_n, mk_I, mk_T, ne_eq, not_true_eq_false, not_false_eq_true, w1, e]; first | done | omega)) ?_
            with_reducible refine ok_cO (by first | assumption | omega | (simp (disch := omega) only [n32_of, neg_n32_1, n32_nat, n32_lt, n32_le, n32_eq, n32_add, n32_sub, n32_mul, n32_m1, m1_n32, n32_addm1, m1_lt, lt_m1, m1_le, le_m1, m1_add1, ofNat_n32, u2_self, u2_n, mk_I, mk_T, ne_eq, not_true_eq_false, not_false_eq_true, ]; first | done | omega)) ?_
            with_reducible refine ok_in (by first | assumption | omega | (simp (disch := omega) only [n32_of, neg_n32_1, n32_nat, n32_lt, n32_le, n32_eq, n32_add, n32_sub, n32_mul, n32_m1, m1_n32, n32_addm1, m1_lt, lt_m1, m1_le, le_m1, m1_add1, ofNat_n32, u2_self, u2_n, mk_I, mk_T, ne_eq, not_true_eq_false, not_false_eq_true, w1, e]; first | done | omega)) ?_
            by_cases hd : y < z
            · with_reducible refine ok_in ?_ ?_
              · exact (Int32.not_le.mpr hd)
              rw [decide_eq_true hd]
              exact hf1
            · with_reducible refine ok_ip ?_ ?_
              · exact (Int32.not_lt.mp hd)
              rw [decide_eq_false hd]
              exact hf0
          · rw [hb]
            with_reducible refine ok_ip (by first | assumption | omega | (simp (disch := omega) only [n32_of, neg_n32_1, n32_nat, n32_lt, n32_le, n32_eq, n32_add, n32_sub, n32_mul, n32_m1, m1_n32, n32_addm1, m1_lt, lt_m1, m1_le, le_m1, m1_add1, ofNat_n32, u2_self, u2_n, mk_I, mk_T, ne_eq, not_true_eq_false, not_false_eq_true, w1, e]; first | done | omega)) ?_
            with_reducible refine ok_cO (by first | assumption | omega | (simp (disch := omega) only [n32_of, neg_n32_1, n32_nat, n32_lt, n32_le, n32_eq, n32_add, n32_sub, n32_mul, n32_m1, m1_n32, n32_addm1, m1_lt, lt_m1, m1_le, le_m1, m1_add1, ofNat_n32, u2_self, u2_n, mk_I, mk_T, ne_eq, not_true_eq_false, not_false_eq_true, ]; first | done | omega)) ?_
            with_reducible refine ok_ip (by first | assumption | omega | (simp (disch := omega) only [n32_of, neg_n32_1, n32_nat, n32_lt, n32_le, n32_eq, n32_add, n32_sub, n32_mul, n32_m1, m1_n32, n32_addm1, m1_lt, lt_m1, m1_le, le_m1, m1_add1, ofNat_n32, u2_self, u2_n, mk_I, mk_T, ne_eq, not_true_eq_false, not_false_eq_true, w1, e]; first | done | omega)) ?_
            with_reducible refine ok_cO (by first | assumption | omega | (simp (disch := omega) only [n32_of, neg_n32_1, n32_nat, n32_lt, n32_le, n32_eq, n32_add, n32_sub, n32_mul, n32_m1, m1_n32, n32_addm1, m1_lt, lt_m1, m1_le, le_m1, m1_add1, ofNat_n32, u2_self, u2_n, mk_I, mk_T, ne_eq, not_true_eq_false, not_false_eq_true, ]; first | done | omega)) ?_
            with_reducible refine ok_ip (by first | assumption | omega | (simp (disch := omega) only [n32_of, neg_n32_1, n32_nat, n32_lt, n32_le, n32_eq, n32_add, n32_sub, n32_mul, n32_m1, m1_n32, n32_addm1, m1_lt, lt_m1, m1_le, le_m1, m1_add1, ofNat_n32, u2_self, u2_n, mk_I, mk_T, ne_eq, not_true_eq_false, not_false_eq_true, w1, e]; first | done | omega)) ?_
            by_cases hd : y ≤ z
            · with_reducible refine ok_in ?_ ?_
              · exact (Int32.not_lt.mpr hd)
              rw [decide_eq_true hd]
              exact hf1
            · with_reducible refine ok_ip ?_ ?_
              · exact (Int32.not_le.mp hd)
              rw [decide_eq_false hd]
              exact hf0
      unfold J_X12_holds_64
      cases hq1 : q.1
      · rw [hq1] at y5
        have y5' : f 255 (200 * pg + (a + k)) = n32 0 := y5
        with_reducible refine ok_ip (by first | assumption | omega | (simp (disch := omega) only [n32_of, neg_n32_1, n32_nat, n32_lt, n32_le, n32_eq, n32_add, n32_sub, n32_mul, n32_m1, m1_n32, n32_addm1, m1_lt, lt_m1, m1_le, le_m1, m1_add1, ofNat_n32, u2_self, u2_n, mk_I, mk_T, ne_eq, not_true_eq_false, not_false_eq_true, y5']; first | done | omega)) ?_
        with_reducible refine ok_cO (by first | assumption | omega | (simp (disch := omega) only [n32_of, neg_n32_1, n32_nat, n32_lt, n32_le, n32_eq, n32_add, n32_sub, n32_mul, n32_m1, m1_n32, n32_addm1, m1_lt, lt_m1, m1_le, le_m1, m1_add1, ofNat_n32, u2_self, u2_n, mk_I, mk_T, ne_eq, not_true_eq_false, not_false_eq_true, ]; first | done | omega)) ?_
        with_reducible refine ok_ip (by first | assumption | omega | (simp (disch := omega) only [n32_of, neg_n32_1, n32_nat, n32_lt, n32_le, n32_eq, n32_add, n32_sub, n32_mul, n32_m1, m1_n32, n32_addm1, m1_lt, lt_m1, m1_le, le_m1, m1_add1, ofNat_n32, u2_self, u2_n, mk_I, mk_T, ne_eq, not_true_eq_false, not_false_eq_true, y5']; first | done | omega)) ?_
        simp (disch := omega) only [n32_of, neg_n32_1, n32_nat, n32_lt, n32_le, n32_eq, n32_add, n32_sub, n32_mul, n32_m1, m1_n32, n32_addm1, m1_lt, lt_m1, m1_le, le_m1, m1_add1, ofNat_n32, u2_self, u2_n, mk_I, mk_T, ]
        have := eval A
        cases A <;> simpa using this
      · rw [hq1] at y5
        have y5' : f 255 (200 * pg + (a + k)) = n32 1 := y5
        with_reducible refine ok_in (by first | assumption | omega | (simp (disch := omega) only [n32_of, neg_n32_1, n32_nat, n32_lt, n32_le, n32_eq, n32_add, n32_sub, n32_mul, n32_m1, m1_n32, n32_addm1, m1_lt, lt_m1, m1_le, le_m1, m1_add1, ofNat_n32, u2_self, u2_n, mk_I, mk_T, ne_eq, not_true_eq_false, not_false_eq_true, y5']; first | done | omega)) ?_
        cases A
        · with_reducible refine ok_ip ?_ ?_
          · exact rfl
          with_reducible refine ok_cO (by first | assumption | omega | (simp (disch := omega) only [n32_of, neg_n32_1, n32_nat, n32_lt, n32_le, n32_eq, n32_add, n32_sub, n32_mul, n32_m1, m1_n32, n32_addm1, m1_lt, lt_m1, m1_le, le_m1, m1_add1, ofNat_n32, u2_self, u2_n, mk_I, mk_T, ne_eq, not_true_eq_false, not_false_eq_true, ]; first | done | omega)) ?_
          with_reducible refine ok_in (by first | assumption | omega | (simp (disch := omega) only [n32_of, neg_n32_1, n32_nat, n32_lt, n32_le, n32_eq, n32_add, n32_sub, n32_mul, n32_m1, m1_n32, n32_addm1, m1_lt, lt_m1, m1_le, le_m1, m1_add1, ofNat_n32, u2_self, u2_n, mk_I, mk_T, ne_eq, not_true_eq_false, not_false_eq_true, y5']; first | done | omega)) ?_
          simp (disch := omega) only [n32_of, neg_n32_1, n32_nat, n32_lt, n32_le, n32_eq, n32_add, n32_sub, n32_mul, n32_m1, m1_n32, n32_addm1, m1_lt, lt_m1, m1_le, le_m1, m1_add1, ofNat_n32, u2_self, u2_n, mk_I, mk_T, ]
          have := eval true
          simpa [bB] using this
        · with_reducible refine ok_in ?_ ?_
          · exact (by decide)
          with_reducible refine ok_cO ?_ ?_
          · decide
          refine ok_some ⟨?_, f, rfl, fun _ _ _ => rfl⟩
          simp [bB]
          rfl
