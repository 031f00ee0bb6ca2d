theorem wfc_mid : ∀ (c : List Nat) (d j : Nat), wfc c d → wfc c (d + 4) → j ≤ 4 → wfc c (d + j) := by
  intro c
  induction c with
  | nil => intros; trivial
  | cons x c ih =>
    intro d j h1 h2 hj
    obtain ⟨a1, h1⟩ := h1
    obtain ⟨-, h2⟩ := h2
    refine ⟨a1, ?_⟩
    by_cases ho : opd x
    · rw [if_pos ho] at h1 h2 ⊢
      refine ⟨by omega, ?_⟩
      rw [show d + j + 1 = d + 1 + j by omega]
      exact ih (d + 1) j h1.2 (by rw [show d + 1 + 4 = d + 4 + 1 by omega]; exact h2.2) hj
    · rw [if_neg ho] at h1 h2 ⊢
      refine ⟨by omega, ?_⟩
      rw [show d + j - 1 = d - 1 + j by omega]
      exact ih (d - 1) j h1.2 (by rw [show d - 1 + 4 = d + 4 - 1 by omega]; exact h2.2) hj
theorem wfc_app : ∀ (c e : List Nat) (d : Nat), wfc c d → (∀ v g, wfc e (evF v c d g).1) → wfc (c ++ e) d := by
  intro c
  induction c with
  | nil => intro e d _ h; exact h (fun _ => 0) (fun _ => 0)
  | cons x c ih =>
    intro e d h1 h2
    obtain ⟨a1, h1⟩ := h1
    refine ⟨a1, ?_⟩
    by_cases ho : opd x
    · rw [if_pos ho] at h1 ⊢
      refine ⟨h1.1, ih e _ h1.2 (fun v g => ?_)⟩
      have := h2 v g
      rw [evF, if_pos ho] at this
      have e0 : ∀ (c : List Nat) (d : Nat) (g g' : Nat → Int32), (evF v c d g).1 = (evF v c d g').1 := by
        intro c
        induction c with
        | nil => intros; rfl
        | cons y c ih =>
          intro d g g'
          rw [evF, evF]
          split
          · exact ih _ _ _
          · exact ih _ _ _
      rw [e0 c (d + 1) g (ug g d (wth v x))]
      exact this
    · rw [if_neg ho] at h1 ⊢
      refine ⟨h1.1, ih e _ h1.2 (fun v g => ?_)⟩
      have := h2 v g
      rw [evF, if_neg ho] at this
      have e0 : ∀ (c : List Nat) (d : Nat) (g g' : Nat → Int32), (evF v c d g).1 = (evF v c d g').1 := by
        intro c
        induction c with
        | nil => intros; rfl
        | cons y c ih =>
          intro d g g'
          rw [evF, evF]
          split
          · exact ih _ _ _
          · exact ih _ _ _
      rw [e0 c (d - 1) g _]
      exact this
theorem one_wf {c : List Nat} (h : one c) {d : Nat} (hd : d ≤ 4) : wfc c d := by
  have := wfc_mid c 0 d h.1.1 h.1.2 hd
  rwa [Nat.zero_add] at this
theorem two_wf {e1 e2 c : List Nat} {s d : Nat} (h1 : one e1) (h2 : one e2) (hs : s < 4) (hd : d ≤ 3) (hc : wfc c (d + 1)) : wfc (e1 ++ (e2 ++ ((20 + s) :: c))) d := by
  refine wfc_app _ _ _ (one_wf h1 (by omega)) (fun v g => ?_)
  rw [(one_ev h1 d g).1]
  refine wfc_app _ _ _ (one_wf h2 (by omega)) (fun v' g' => ?_)
  rw [(one_ev h2 (d + 1) g').1]
  refine ⟨by omega, ?_⟩
  rw [if_neg (by omega)]
  exact ⟨by omega, hc⟩
theorem wfc_op {t d : Nat} {c : List Nat} (ht : ¬ opd t ∧ t < 20000) (h : wfc c (d + 1)) : wfc (t :: c) (d + 2) := by
  refine ⟨ht.2, ?_⟩
  rw [if_neg ht.1]
  exact ⟨by omega, h⟩
theorem cc_wf : ∀ (rs : List Rl) (O A : Bool), (∀ r ∈ rs, okL r) → wfc (cc rs O A) (stk O A true true true).length := by
  intro rs
  induction rs with
  | nil =>
    intro O A _
    cases O <;> cases A
    · trivial
    · exact wfc_op (d := 0) (by decide) trivial
    · exact wfc_op (d := 0) (by decide) trivial
    · exact wfc_op (d := 1) (by decide) (wfc_op (d := 0) (by decide) trivial)
  | cons r rs ih =>
    intro O A hk
    have hr := hk r List.mem_cons_self
    have hrs : ∀ r ∈ rs, okL r := fun q hq => hk q (List.mem_cons_of_mem _ hq)
    rw [cc]
    cases ho : r.1
    · rw [if_neg (by simp)]
      have hc := ih O true hrs
      cases A <;> cases O
      · exact two_wf hr.2.1.1 hr.2.2.1 hr.1 (d := 1) (by omega) hc
      · exact two_wf hr.2.1.1 hr.2.2.1 hr.1 (d := 2) (by omega) hc
      · exact wfc_op (d := 0) (by decide) (two_wf hr.2.1.1 hr.2.2.1 hr.1 (d := 1) (by omega) hc)
      · exact wfc_op (d := 1) (by decide) (two_wf hr.2.1.1 hr.2.2.1 hr.1 (d := 2) (by omega) hc)
    · rw [if_pos rfl]
      have hc := ih true false hrs
      cases A <;> cases O
      · exact two_wf hr.2.1.1 hr.2.2.1 hr.1 (d := 1) (by omega) hc
      · exact wfc_op (d := 0) (by decide) (two_wf hr.2.1.1 hr.2.2.1 hr.1 (d := 1) (by omega) hc)
      · exact wfc_op (d := 0) (by decide) (two_wf hr.2.1.1 hr.2.2.1 hr.1 (d := 1) (by omega) hc)
      · exact wfc_op (d := 1) (by decide) (wfc_op (d := 0) (by decide) (two_wf hr.2.1.1 hr.2.2.1 hr.1 (d := 1) (by omega) hc))
theorem cond_wf (rs : List Rl) (h : ∀ q ∈ rs, okL q) : wfc (condC rs) 0 := by
  cases rs with
  | nil => trivial
  | cons r rs =>
    have hr := h r List.mem_cons_self
    exact two_wf hr.2.1.1 hr.2.2.1 hr.1 (d := 0) (by omega) (cc_wf rs false false (fun q hq => h q (List.mem_cons_of_mem _ hq)))
/-- two planes differ in one cell only -/
def eqx (f f' : Nat → Nat → Int32) (a : Nat) : Prop := ∀ b k, b ≠ a → f' b k = f b k
theorem x_compute {N t p cl : Nat} {σ : aSt} {f : Nat → Nat → Int32} {c : List Nat} (hN : 1000 ≤ N) (ht : t + 6 ≠ 22) (hcl : cl ≤ 400) (h6 : f t 6 = n32 cl) (hs : seg f (t + 5) p c) (hp : p + c.length ≤ cl) (hw : wfc c 0) (h1 : ∀ v g, (evF v c 0 g).1 = 1) : Ok (F_X10_compute N t (n32 p) (n32 (p + c.length)) (mk σ f)) (fun y σ' => y = (evF (f 22) c 0 (fun _ => 0)).2 0 ∧ ∃ f', σ' = mk σ f' ∧ eqx f f' (t + 6)) := by
  unfold F_X10_compute
  refine ok_mono (x_comp ht hcl hp c N p 0 f (fun _ => 0) (by omega) hs rfl h6 hw (by omega) (fun k hk => absurd hk (Nat.not_lt_zero k))) (fun y σ' hq => ?_)
  rw [h1] at hq
  exact ⟨hq.1 Nat.one_pos, hq.2⟩
def okR (u : Ru) : Prop := u.1 < 3 ∧ (one u.2.1 ∧ arc u.2.1) ∧ (∀ q ∈ u.2.2, okL q) ∧ ∀ q, u.2.2[0]? = some q → q.1 = true
def XR (f : Nat → Nat → Int32) (t cl r : Nat) (u : Ru) : Prop := ∃ p, f (t + 1) r = n32 u.1 ∧ f (t + 2) r = n32 p ∧ f (t + 3) r = n32 (p + u.2.1.length) ∧ f (t + 4) r = n32 (p + u.2.1.length + (condC u.2.2).length) ∧ p + u.2.1.length + (condC u.2.2).length ≤ cl ∧ seg f (t + 5) p u.2.1 ∧ seg f (t + 5) (p + u.2.1.length) (condC u.2.2)
/-- a text of the program holds these rules -/
def XT (f : Nat → Nat → Int32) (t : Nat) (rs : List Ru) : Prop := f t 0 = n32 rs.length ∧ ∃ cl, cl ≤ 400 ∧ f t 6 = n32 cl ∧ ∀ r u, rs[r]? = some u → XR f t cl r u
def okT (rs : List Ru) : Prop := rs.length ≤ 20 ∧ ∀ u ∈ rs, okR u
theorem XT_cg {f f' : Nat → Nat → Int32} {t : Nat} {rs : List Ru} (h : XT f t rs) (e0 : ∀ k, f' t k = f t k) (e1 : ∀ k, f' (t + 1) k = f (t + 1) k) (e2 : ∀ k, f' (t + 2) k = f (t + 2) k) (e3 : ∀ k, f' (t + 3) k = f (t + 3) k) (e4 : ∀ k, f' (t + 4) k = f (t + 4) k) (e5 : ∀ k, f' (t + 5) k = f (t + 5) k) : XT f' t rs := by
  obtain ⟨a, cl, b, c, d⟩ := h
  refine ⟨(e0 _).trans a, cl, b, (e0 _).trans c, fun r u hu => ?_⟩
  obtain ⟨p, h1, h2, h3, h4, h5, h6, h7⟩ := d r u hu
  exact ⟨p, (e1 _).trans h1, (e2 _).trans h2, (e3 _).trans h3, (e4 _).trans h4, h5, seg_cg h6 e5, seg_cg h7 e5⟩
theorem XT_x {f f' : Nat → Nat → Int32} {t a : Nat} {rs : List Ru} (h : XT f t rs) (e : eqx f f' a) (ha : a < t ∨ t + 5 < a) : XT f' t rs := XT_cg h (fun k => e _ k (by omega)) (fun k => e _ k (by omega)) (fun k => e _ k (by omega)) (fun k => e _ k (by omega)) (fun k => e _ k (by omega)) (fun k => e _ k (by omega))
/-- the first rule with a word that holds -/
def fst (v : Nat → Int32) (w : Nat) : List Ru → Nat → Int32
  | [], _ => m1
  | u :: rs, i => if u.1 = w ∧ hol v u.2.2 = true then n32 i else fst v w rs (i + 1)
theorem cc_ne (rs : List Rl) (r : Rl) : condC (r :: rs) ≠ [] := by
  intro h
  have := congrArg List.length h
  simp [condC] at this
theorem x_first {N t w : Nat} {σ : aSt} {rs : List Ru} (hN : 1000 ≤ N) (ht : t + 6 ≠ 22) (hok : okT rs) (hw : w < 3) : ∀ (n r : Nat) (f : Nat → Nat → Int32), rs.length < n + r → r ≤ rs.length → XT f t rs → Ok (H_X10_firstThatHolds_2 N n t (n32 w) (n32 r) (mk σ f)) (fun y σ' => y = fst (f 22) w (rs.drop r) r ∧ ∃ f', σ' = mk σ f' ∧ eqx f f' (t + 6)) := by
  intro n
  induction n with
  | zero => intro r f h1 h2 h3; omega
  | succ n ih =>
    intro r f h1 h2 hX
    have hl := hok.1
    have hX0 := hX
    obtain ⟨x0, cl, x1, x2, x3⟩ := hX
    rw [H_X10_firstThatHolds_2]
    by_cases hr : rs.length ≤ r
    · refine ok_ip (by first | assumption | omega | (simp (disch := omega) only [n32_of, neg_n32_1, n32_nat, n32_lt, n32_le, n32_eq, n32_add, n32_sub, n32_mul, n32_m1, m1_n32, n32_addm1, m1_lt, lt_m1, m1_le, le_m1, m1_add1, ofNat_n32, u2_self, u2_n, mk_I, mk_T, ne_eq, not_true_eq_false, not_false_eq_true, x0]; first | done | omega)) (ok_some ⟨?_, f, rfl, fun _ _ _ => rfl⟩)
      rw [List.drop_eq_nil_of_le hr]
      rfl
    · refine ok_in (by first | assumption | omega | (simp (disch := omega) only [n32_of, neg_n32_1, n32_nat, n32_lt, n32_le, n32_eq, n32_add, n32_sub, n32_mul, n32_m1, m1_n32, n32_addm1, m1_lt, lt_m1, m1_le, le_m1, m1_add1, ofNat_n32, u2_self, u2_n, mk_I, mk_T, ne_eq, not_true_eq_false, not_false_eq_true, x0]; first | done | omega)) ?_
      have hlt : r < rs.length := by omega
      have hget : rs[r]? = some rs[r] := List.getElem?_eq_getElem hlt
      generalize hu : rs[r] = u at hget
      have hku := hok.2 u (List.mem_of_getElem? hget)
      have hdrop : rs.drop r = u :: rs.drop (r + 1) := by rw [List.drop_eq_getElem_cons hlt, hu]
      rw [hdrop, fst]
      obtain ⟨p, y1, y2, y3, y4, y5, y6, y7⟩ := x3 r u hget
      have hu3 := hku.1
      have next : ∀ f1, eqx f f1 (t + 6) → Ok (H_X10_firstThatHolds_2 N n t (n32 w) (n32 (r + 1)) (mk σ f1)) (fun y σ' => y = fst (f 22) w (rs.drop (r + 1)) (r + 1) ∧ ∃ f', σ' = mk σ f' ∧ eqx f f' (t + 6)) := by
        intro f1 he
        refine ok_mono (ih (r + 1) f1 (by omega) (by omega) (XT_x hX0 he (by omega))) (fun y σ' hq => ?_)
        have e22 : f1 22 = f 22 := by
          funext k
          exact he 22 k (by omega)
        rw [e22] at hq
        exact ⟨hq.1, hq.2.choose, hq.2.choose_spec.1, fun b k hb => (hq.2.choose_spec.2 b k hb).trans (he b k hb)⟩
      unfold J_X10_firstThatHolds_30 J_X10_firstThatHolds_67 J_X10_firstThatHolds_69
      refine ok_cO (by first | assumption | omega | (simp (disch := omega) only [n32_of, neg_n32_1, n32_nat, n32_lt, n32_le, n32_eq, n32_add, n32_sub, n32_mul, n32_m1, m1_n32, n32_addm1, m1_lt, lt_m1, m1_le, le_m1, m1_add1, ofNat_n32, u2_self, u2_n, mk_I, mk_T, ne_eq, not_true_eq_false, not_false_eq_true, ]; first | done | omega)) (ok_cO (by first | assumption | omega | (simp (disch := omega) only [n32_of, neg_n32_1, n32_nat, n32_lt, n32_le, n32_eq, n32_add, n32_sub, n32_mul, n32_m1, m1_n32, n32_addm1, m1_lt, lt_m1, m1_le, le_m1, m1_add1, ofNat_n32, u2_self, u2_n, mk_I, mk_T, ne_eq, not_true_eq_false, not_false_eq_true, ]; first | done | omega)) ?_)
      by_cases hww : u.1 = w
      · cases hrel : u.2.2 with
        | nil =>
          rw [hrel] at y4 y5 y7
          simp only [condC, List.length_nil, Nat.add_zero] at y4 y5
          refine ok_in (by first | assumption | omega | (simp (disch := omega) only [n32_of, neg_n32_1, n32_nat, n32_lt, n32_le, n32_eq, n32_add, n32_sub, n32_mul, n32_m1, m1_n32, n32_addm1, m1_lt, lt_m1, m1_le, le_m1, m1_add1, ofNat_n32, u2_self, u2_n, mk_I, mk_T, ne_eq, not_true_eq_false, not_false_eq_true, y3, y4]; first | done | omega)) (ok_cO (by first | assumption | omega | (simp (disch := omega) only [n32_of, neg_n32_1, n32_nat, n32_lt, n32_le, n32_eq, n32_add, n32_sub, n32_mul, n32_m1, m1_n32, n32_addm1, m1_lt, lt_m1, m1_le, le_m1, m1_add1, ofNat_n32, u2_self, u2_n, mk_I, mk_T, ne_eq, not_true_eq_false, not_false_eq_true, ]; first | done | omega)) (ok_in (by first | assumption | omega | (simp (disch := omega) only [n32_of, neg_n32_1, n32_nat, n32_lt, n32_le, n32_eq, n32_add, n32_sub, n32_mul, n32_m1, m1_n32, n32_addm1, m1_lt, lt_m1, m1_le, le_m1, m1_add1, ofNat_n32, u2_self, u2_n, mk_I, mk_T, ne_eq, not_true_eq_false, not_false_eq_true, y1]; first | done | omega)) (ok_ip (by first | assumption | omega | (simp (disch := omega) only [n32_of, neg_n32_1, n32_nat, n32_lt, n32_le, n32_eq, n32_add, n32_sub, n32_mul, n32_m1, m1_n32, n32_addm1, m1_lt, lt_m1, m1_le, le_m1, m1_add1, ofNat_n32, u2_self, u2_n, mk_I, mk_T, ne_eq, not_true_eq_false, not_false_eq_true, ]; first | done | omega)) (ok_some ⟨?_, f, rfl, fun _ _ _ => rfl⟩))))
          rw [if_pos ⟨hww, rfl⟩]
        | cons r0 rs0 =>
          have hne : 0 < (condC u.2.2).length := by
            rw [hrel]
            exact List.length_pos_iff.mpr (cc_ne rs0 r0)
          refine ok_ip (by first | assumption | omega | (simp (disch := omega) only [n32_of, neg_n32_1, n32_nat, n32_lt, n32_le, n32_eq, n32_add, n32_sub, n32_mul, n32_m1, m1_n32, n32_addm1, m1_lt, lt_m1, m1_le, le_m1, m1_add1, ofNat_n32, u2_self, u2_n, mk_I, mk_T, ne_eq, not_true_eq_false, not_false_eq_true, y3, y4]; first | done | omega)) (ok_cO (by first | assumption | omega | (simp (disch := omega) only [n32_of, neg_n32_1, n32_nat, n32_lt, n32_le, n32_eq, n32_add, n32_sub, n32_mul, n32_m1, m1_n32, n32_addm1, m1_lt, lt_m1, m1_le, le_m1, m1_add1, ofNat_n32, u2_self, u2_n, mk_I, mk_T, ne_eq, not_true_eq_false, not_false_eq_true, ]; first | done | omega)) (ok_in (by first | assumption | omega | (simp (disch := omega) only [n32_of, neg_n32_1, n32_nat, n32_lt, n32_le, n32_eq, n32_add, n32_sub, n32_mul, n32_m1, m1_n32, n32_addm1, m1_lt, lt_m1, m1_le, le_m1, m1_add1, ofNat_n32, u2_self, u2_n, mk_I, mk_T, ne_eq, not_true_eq_false, not_false_eq_true, y1]; first | done | omega)) (ok_in (by first | assumption | omega | (simp (disch := omega) only [n32_of, neg_n32_1, n32_nat, n32_lt, n32_le, n32_eq, n32_add, n32_sub, n32_mul, n32_m1, m1_n32, n32_addm1, m1_lt, lt_m1, m1_le, le_m1, m1_add1, ofNat_n32, u2_self, u2_n, mk_I, mk_T, ne_eq, not_true_eq_false, not_false_eq_true, ]; first | done | omega)) (ok_cO (by first | assumption | omega | (simp (disch := omega) only [n32_of, neg_n32_1, n32_nat, n32_lt, n32_le, n32_eq, n32_add, n32_sub, n32_mul, n32_m1, m1_n32, n32_addm1, m1_lt, lt_m1, m1_le, le_m1, m1_add1, ofNat_n32, u2_self, u2_n, mk_I, mk_T, ne_eq, not_true_eq_false, not_false_eq_true, ]; first | done | omega)) (ok_cO (by first | assumption | omega | (simp (disch := omega) only [n32_of, neg_n32_1, n32_nat, n32_lt, n32_le, n32_eq, n32_add, n32_sub, n32_mul, n32_m1, m1_n32, n32_addm1, m1_lt, lt_m1, m1_le, le_m1, m1_add1, ofNat_n32, u2_self, u2_n, mk_I, mk_T, ne_eq, not_true_eq_false, not_false_eq_true, ]; first | done | omega)) ?_)))))
          have hall : ∀ q ∈ r0 :: rs0, okL q := by rw [← hrel]; exact hku.2.2.1
          simp (disch := omega) only [n32_of, neg_n32_1, n32_nat, n32_lt, n32_le, n32_eq, n32_add, n32_sub, n32_mul, n32_m1, m1_n32, n32_addm1, m1_lt, lt_m1, m1_le, le_m1, m1_add1, ofNat_n32, u2_self, u2_n, mk_I, mk_T, y3, y4]
          rw [hrel] at y5 y7 ⊢
          refine ok_bind (x_compute hN ht x1 x2 y7 y5 (cond_wf _ hall) (fun v g => (cond_ev v r0 rs0 hall g).1)) (fun y σ' hq => ?_)
          obtain ⟨rfl, f1, rfl, he⟩ := hq
          rw [(cond_ev (f 22) r0 rs0 hall _).2]
          cases hh : hol (f 22) (r0 :: rs0)
          · refine ok_ip rfl ?_
            rw [if_neg (fun q => by simp at q)]
            exact next f1 he
          · refine ok_in (by decide) (ok_some ⟨?_, f1, rfl, he⟩)
            rw [if_pos ⟨hww, rfl⟩]
      · have e0 : (if u.1 = w ∧ hol (f 22) u.2.2 = true then n32 r else fst (f 22) w (List.drop (r + 1) rs) (r + 1)) = fst (f 22) w (List.drop (r + 1) rs) (r + 1) := if_neg (fun q => hww q.1)
        rw [e0]
        with_reducible refine ok_if (fun hc => ?_) (fun hc => ?_)
        · with_reducible refine ok_cO (by first | assumption | omega | (simp (disch := omega) only [n32_of, neg_n32_1, n32_nat, n32_lt, n32_le, n32_eq, n32_add, n32_sub, n32_mul, n32_m1, m1_n32, n32_addm1, m1_lt, lt_m1, m1_le, le_m1, m1_add1, ofNat_n32, u2_self, u2_n, mk_I, mk_T, ne_eq, not_true_eq_false, not_false_eq_true, ]; first | done | omega)) ?_
          with_reducible refine ok_ip (by first | assumption | omega | (simp (disch := omega) only [n32_of, neg_n32_1, n32_nat, n32_lt, n32_le, n32_eq, n32_add, n32_sub, n32_mul, n32_m1, m1_n32, n32_addm1, m1_lt, lt_m1, m1_le, le_m1, m1_add1, ofNat_n32, u2_self, u2_n, mk_I, mk_T, ne_eq, not_true_eq_false, not_false_eq_true, y1]; first | done | omega)) ?_
          simp (disch := omega) only [n32_of, neg_n32_1, n32_nat, n32_lt, n32_le, n32_eq, n32_add, n32_sub, n32_mul, n32_m1, m1_n32, n32_addm1, m1_lt, lt_m1, m1_le, le_m1, m1_add1, ofNat_n32, u2_self, u2_n, mk_I, mk_T, ]
          exact next f (fun _ _ _ => rfl)
        · with_reducible refine ok_cO (by first | assumption | omega | (simp (disch := omega) only [n32_of, neg_n32_1, n32_nat, n32_lt, n32_le, n32_eq, n32_add, n32_sub, n32_mul, n32_m1, m1_n32, n32_addm1, m1_lt, lt_m1, m1_le, le_m1, m1_add1, ofNat_n32, u2_self, u2_n, mk_I, mk_T, ne_eq, not_true_eq_false, not_false_eq_true, ]; first | done | omega)) ?_
          with_reducible refine ok_ip (by first | assumption | omega | (simp (disch := omega) only [n32_of, neg_n32_1, n32_nat, n32_lt, n32_le, n32_eq, n32_add, n32_sub, n32_mul, n32_m1, m1_n32, n32_addm1, m1_lt, lt_m1, m1_le, le_m1, m1_add1, ofNat_n32, u2_self, u2_n, mk_I, mk_T, ne_eq, not_true_eq_false, not_false_eq_true, y1]; first | done | omega)) ?_
          simp (disch := omega) only [n32_of, neg_n32_1, n32_nat, n32_lt, n32_le, n32_eq, n32_add, n32_sub, n32_mul, n32_m1, m1_n32, n32_addm1, m1_lt, lt_m1, m1_le, le_m1, m1_add1, ofNat_n32, u2_self, u2_n, mk_I, mk_T, ]
          exact next f (fun _ _ _ => rfl)
