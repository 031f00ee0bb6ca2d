/-! ===== the program's parser takes a token ===== -/
def XRs (t : Nat) (f : pln) : Nat → Nat → List Ru → Prop
  | _, _, [] => True
  | r, p, u :: rs => (f (t + 1) r = n32 u.1 ∧ f (t + 2) r = n32 p ∧ f (t + 3) r = n32 (p + u.2.1.length) ∧ f (t + 4) r = n32 (p + u.2.1.length + (condC u.2.2).length)) ∧ XRs t f (r + 1) (p + u.2.1.length + (condC u.2.2).length) rs
theorem XRs_cg {t : Nat} {f f' : pln} : ∀ (rs : List Ru) (r p : Nat), XRs t f r p rs → (∀ a k, t + 1 ≤ a → a ≤ t + 4 → r ≤ k → k < r + rs.length → f' a k = f a k) → XRs t f' r p rs := by
  intro rs
  induction rs with
  | nil => intro r p _ _; exact trivial
  | cons u rs ih =>
    intro r p h e
    obtain ⟨⟨h1, h2, h3, h4⟩, h5⟩ := h
    rw [List.length_cons] at e
    exact ⟨⟨(e _ _ (by omega) (by omega) (by omega) (by omega)).trans h1, (e _ _ (by omega) (by omega) (by omega) (by omega)).trans h2, (e _ _ (by omega) (by omega) (by omega) (by omega)).trans h3, (e _ _ (by omega) (by omega) (by omega) (by omega)).trans h4⟩, ih _ _ h5 (fun a k a1 a2 a3 a4 => e a k a1 a2 (by omega) (by omega))⟩
theorem XRs_app {t : Nat} {f : pln} {u : Ru} : ∀ (rs : List Ru) (r p : Nat), XRs t f r p rs → XRs t f (r + rs.length) (p + (fxc rs).length) [u] → XRs t f r p (rs ++ [u]) := by
  intro rs
  induction rs with
  | nil => intro r p _ h; exact h
  | cons x rs ih =>
    intro r p h h2
    refine ⟨h.1, ih _ _ h.2 ?_⟩
    rw [fxc, List.length_append, List.length_append, List.length_cons] at h2
    rw [show r + 1 + rs.length = r + (rs.length + 1) by omega, show p + x.2.1.length + (condC x.2.2).length + (fxc rs).length = p + (x.2.1.length + ((condC x.2.2).length + (fxc rs).length)) by omega]
    exact h2
theorem XRs_get {t cl : Nat} {f : pln} : ∀ (rs : List Ru) (r p : Nat), XRs t f r p rs → seg f (t + 5) p (fxc rs) → p + (fxc rs).length ≤ cl → ∀ i u, rs[i]? = some u → XR f t cl (r + i) u := by
  intro rs
  induction rs with
  | nil => intro r p _ _ _ i u h; cases h
  | cons x rs ih =>
    intro r p h hs hl i u hu
    rw [fxc] at hs hl
    rw [List.length_append, List.length_append] at hl
    obtain ⟨s1, s2⟩ := seg_app hs
    obtain ⟨s3, s4⟩ := seg_app s2
    cases i with
    | zero =>
      cases hu
      obtain ⟨⟨h1, h2, h3, h4⟩, h5⟩ := h
      exact ⟨p, h1, h2, h3, h4, by omega, s1, s3⟩
    | succ i =>
      have := ih (r + 1) _ h.2 s4 (by omega) i u hu
      rw [show r + 1 + i = r + (i + 1) by omega] at this
      exact this
def XI (t : Nat) (f : pln) (k st pt : Nat) (C : CX) (c ws : List Nat) : Prop := (f 1 7 = n32 st ∧ f 1 6 = n32 k ∧ (st ≠ 0 → f 1 8 = n32 pt) ∧ f 1 9 = n32 (opn ws)) ∧ xSt t f (ws ++ xPd pt C) (xCd C c) ∧ f t 0 = n32 (xR C).length ∧ XRs t f 0 0 (xR C) ∧ (st ≠ 0 → f (t + 1) (xR C).length = n32 (xW C) ∧ f (t + 2) (xR C).length = n32 (fxc (xR C)).length ∧ (pt ≠ 0 → f (t + 3) (xR C).length = n32 ((fxc (xR C)).length + (xV C).length)))
def eqP (t : Nat) (f f' : pln) : Prop := ∀ a k, (a ≠ 1 ∨ k < 6) → a ≠ 10 → (a < t ∨ t + 5 < a) → f' a k = f a k
theorem eqP_tr {t : Nat} {f g h : pln} (e1 : eqP t f g) (e2 : eqP t g h) : eqP t f h := fun a k q1 q2 q3 => (e2 a k q1 q2 q3).trans (e1 a k q1 q2 q3)
theorem xCd_app {C : CX} {c e : List Nat} : xCd C (c ++ e) = xCd C c ++ e := by
  unfold xCd
  simp [List.append_assoc]
theorem XI_ex {t : Nat} {f f' : pln} {k k' st st' pt : Nat} {C : CX} {c c' ws ws' : List Nat} (h : XI t f k st pt C c ws) (h0 : st ≠ 0) (h1 : f' 1 7 = n32 st') (h2 : f' 1 6 = n32 k') (h3 : f' 1 8 = f 1 8) (h4 : f' 1 9 = n32 (opn ws')) (h5 : xSt t f' (ws' ++ xPd pt C) (xCd C c')) (h6 : f' t 0 = f t 0) (h7 : ∀ a k, t + 1 ≤ a → a ≤ t + 4 → f' a k = f a k) : XI t f' k' st' pt C c' ws' := by
  obtain ⟨⟨a1, a2, a3, a4⟩, a5, a6, a7, a8⟩ := h
  obtain ⟨b1, b2, b3⟩ := a8 h0
  exact ⟨⟨h1, h2, fun _ => h3.trans (a3 h0), h4⟩, h5, h6.trans a6, XRs_cg _ _ _ a7 (fun a k p1 p2 _ _ => h7 a k p1 p2), fun _ => ⟨(h7 _ _ (by omega) (by omega)).trans b1, (h7 _ _ (by omega) (by omega)).trans b2, fun q => (h7 _ _ (by omega) (by omega)).trans (b3 q)⟩⟩
section XT2
variable {N t k st pt : Nat} {σ : aSt} {f : pln} {C : CX} {c ws : List Nat}
theorem PI_x {k st pt : Nat} {C : CX} {c ws : List Nat} (h : PI k st pt C c ws) : (xCd C c).length + (ws ++ xPd pt C).length ≤ k ∧ ws.length ≤ 20 ∧ (ws ++ xPd pt C).length ≤ 23 ∧ (∀ x ∈ ws ++ xPd pt C, x < 20000) ∧ (opn ws ≤ 6 ∧ shp ws) := by
  obtain ⟨h1, h2, h3, h4, h5⟩ := h
  obtain ⟨p1, p2, -⟩ := xPd_lt (pt := pt) (C := C) (fun q => (h2.2.2.2.2.2.2.2 q).2)
  have hw : ws.length ≤ 20 ∧ (opn ws ≤ 6 ∧ shp ws) ∧ ∀ x ∈ ws, x < 20000 := by
    by_cases hs : st = 0
    · rw [(h3 hs).2]
      exact ⟨Nat.zero_le _, ⟨Nat.zero_le _, trivial⟩, fun x hx => by cases hx⟩
    · have := h4 hs
      refine ⟨(PE_len this).1, ⟨this.1.2, this.1.1⟩, fun x hx => ?_⟩
      have := shp_mem _ this.1.1 x hx
      omega
  refine ⟨Nat.le_trans xTot h5, hw.1, ?_, fun x hx => ?_, hw.2.1⟩
  · rw [List.length_append]; omega
  · rcases List.mem_append.mp hx with q | q
    · exact hw.2.2 x q
    · have := p1 x q
      omega
theorem x_tk_rule {w : Nat} (ht : t = 2 ∨ 15 ≤ t) (hT : aTxt σ 1 2 = t) (hX : XI t f k 0 pt C c ws) (hP : PI k 0 pt C c ws) (hk : k < 400) (hl : (xR C).length < 20) (hw : w < 20000) : Ok (F_X8_take N (n32 w) (mk σ f)) (fun _ σ' => ∃ f', σ' = mk σ f' ∧ eqP t f f' ∧ XI t f' (k + 1) 1 0 (cNew (xR C) w) [] []) := by
  obtain ⟨⟨a1, a2, a3, a4⟩, a5, a6, a7, a8⟩ := hX
  obtain ⟨p1, p2, p3, p4, p5⟩ := hP
  obtain ⟨rfl, rfl⟩ := p3 rfl
  have hpt : pt = 0 := p2.2.2.1 rfl
  subst hpt
  obtain ⟨v0, l0⟩ := p2.2.2.2.1 rfl
  have e0 := p2.2.2.2.2.1 (by omega)
  have ec : xCd C [] = fxc (xR C) := by
    unfold xCd
    rw [v0, l0, e0]
    simp [jc]
  have ep : xPd 0 C = [] := by
    unfold xPd
    rw [l0]
    rfl
  have ec' : xCd (cNew (xR C) w) [] = fxc (xR C) := by
    show fxc (xR C) ++ ([] ++ ([] ++ ([] ++ []))) = _
    simp
  have ep' : xPd 0 (cNew (xR C) w) = [] := rfl
  rw [ec, ep] at a5
  have a56 := a5.2.1
  unfold F_X8_take
  repeat (first | with_reducible refine ok_W ?_ | with_reducible refine ok_cO (by first | assumption | omega | (simp (disch := omega) only [n32_of, neg_n32_1, n32_nat, n32_lt, n32_le, n32_eq, n32_add, n32_sub, n32_mul, n32_m1, m1_n32, n32_addm1, m1_lt, lt_m1, m1_le, le_m1, m1_add1, ofNat_n32, u2_self, u2_n, mk_I, mk_T, ne_eq, not_true_eq_false, not_false_eq_true, a2, a1]; first | done | omega)) ?_ | with_reducible refine ok_ip (by first | assumption | omega | (simp (disch := omega) only [n32_of, neg_n32_1, n32_nat, n32_lt, n32_le, n32_eq, n32_add, n32_sub, n32_mul, n32_m1, m1_n32, n32_addm1, m1_lt, lt_m1, m1_le, le_m1, m1_add1, ofNat_n32, u2_self, u2_n, mk_I, mk_T, ne_eq, not_true_eq_false, not_false_eq_true, a2, a1]; first | done | omega)) ?_ | with_reducible refine ok_in (by first | assumption | omega | (simp (disch := omega) only [n32_of, neg_n32_1, n32_nat, n32_lt, n32_le, n32_eq, n32_add, n32_sub, n32_mul, n32_m1, m1_n32, n32_addm1, m1_lt, lt_m1, m1_le, le_m1, m1_add1, ofNat_n32, u2_self, u2_n, mk_I, mk_T, ne_eq, not_true_eq_false, not_false_eq_true, a2, a1]; first | done | omega)) ?_)
  unfold F_X10_beginRule J_X10_beginRule_32 J_X8_take_91
  refine ok_oB ?_
  repeat (first | with_reducible refine ok_W ?_ | with_reducible refine ok_cO (by first | assumption | omega | (simp (disch := omega) only [n32_of, neg_n32_1, n32_nat, n32_lt, n32_le, n32_eq, n32_add, n32_sub, n32_mul, n32_m1, m1_n32, n32_addm1, m1_lt, lt_m1, m1_le, le_m1, m1_add1, ofNat_n32, u2_self, u2_n, mk_I, mk_T, ne_eq, not_true_eq_false, not_false_eq_true, hT, a6]; first | done | omega)) ?_ | with_reducible refine ok_ip (by first | assumption | omega | (simp (disch := omega) only [n32_of, neg_n32_1, n32_nat, n32_lt, n32_le, n32_eq, n32_add, n32_sub, n32_mul, n32_m1, m1_n32, n32_addm1, m1_lt, lt_m1, m1_le, le_m1, m1_add1, ofNat_n32, u2_self, u2_n, mk_I, mk_T, ne_eq, not_true_eq_false, not_false_eq_true, hT, a6]; first | done | omega)) ?_ | with_reducible refine ok_in (by first | assumption | omega | (simp (disch := omega) only [n32_of, neg_n32_1, n32_nat, n32_lt, n32_le, n32_eq, n32_add, n32_sub, n32_mul, n32_m1, m1_n32, n32_addm1, m1_lt, lt_m1, m1_le, le_m1, m1_add1, ofNat_n32, u2_self, u2_n, mk_I, mk_T, ne_eq, not_true_eq_false, not_false_eq_true, hT, a6]; first | done | omega)) ?_)
  refine ok_some ?_
  repeat (first | with_reducible refine ok_W ?_ | with_reducible refine ok_cO (by first | assumption | omega | (simp (disch := omega) only [n32_of, neg_n32_1, n32_nat, n32_lt, n32_le, n32_eq, n32_add, n32_sub, n32_mul, n32_m1, m1_n32, n32_addm1, m1_lt, lt_m1, m1_le, le_m1, m1_add1, ofNat_n32, u2_self, u2_n, mk_I, mk_T, ne_eq, not_true_eq_false, not_false_eq_true, ]; first | done | omega)) ?_ | with_reducible refine ok_ip (by first | assumption | omega | (simp (disch := omega) only [n32_of, neg_n32_1, n32_nat, n32_lt, n32_le, n32_eq, n32_add, n32_sub, n32_mul, n32_m1, m1_n32, n32_addm1, m1_lt, lt_m1, m1_le, le_m1, m1_add1, ofNat_n32, u2_self, u2_n, mk_I, mk_T, ne_eq, not_true_eq_false, not_false_eq_true, ]; first | done | omega)) ?_ | with_reducible refine ok_in (by first | assumption | omega | (simp (disch := omega) only [n32_of, neg_n32_1, n32_nat, n32_lt, n32_le, n32_eq, n32_add, n32_sub, n32_mul, n32_m1, m1_n32, n32_addm1, m1_lt, lt_m1, m1_le, le_m1, m1_add1, ofNat_n32, u2_self, u2_n, mk_I, mk_T, ne_eq, not_true_eq_false, not_false_eq_true, ]; first | done | omega)) ?_)
  refine ok_some ⟨_, rfl, ?_, ?_⟩
  · intro a j q1 q2 q3
    simp (disch := omega) only [n32_of, neg_n32_1, n32_nat, n32_lt, n32_le, n32_eq, n32_add, n32_sub, n32_mul, n32_m1, m1_n32, n32_addm1, m1_lt, lt_m1, m1_le, le_m1, m1_add1, ofNat_n32, u2_self, u2_n, mk_I, mk_T, a6, hT]
  · refine ⟨⟨?_, ?_, fun _ => ?_, ?_⟩, ?_, ?_, XRs_cg _ _ _ a7 (fun a j q1 q2 q3 q4 => ?_), fun _ => ⟨?_, ?_, fun q => absurd rfl q⟩⟩
    · simp (disch := omega) only [n32_of, neg_n32_1, n32_nat, n32_lt, n32_le, n32_eq, n32_add, n32_sub, n32_mul, n32_m1, m1_n32, n32_addm1, m1_lt, lt_m1, m1_le, le_m1, m1_add1, ofNat_n32, u2_self, u2_n, mk_I, mk_T, ]
    · simp (disch := omega) only [n32_of, neg_n32_1, n32_nat, n32_lt, n32_le, n32_eq, n32_add, n32_sub, n32_mul, n32_m1, m1_n32, n32_addm1, m1_lt, lt_m1, m1_le, le_m1, m1_add1, ofNat_n32, u2_self, u2_n, mk_I, mk_T, a2]
    · simp (disch := omega) only [n32_of, neg_n32_1, n32_nat, n32_lt, n32_le, n32_eq, n32_add, n32_sub, n32_mul, n32_m1, m1_n32, n32_addm1, m1_lt, lt_m1, m1_le, le_m1, m1_add1, ofNat_n32, u2_self, u2_n, mk_I, mk_T, ]
    · simp (disch := omega) only [n32_of, neg_n32_1, n32_nat, n32_lt, n32_le, n32_eq, n32_add, n32_sub, n32_mul, n32_m1, m1_n32, n32_addm1, m1_lt, lt_m1, m1_le, le_m1, m1_add1, ofNat_n32, u2_self, u2_n, mk_I, mk_T, ]
      exact a4
    · rw [ep', ec']
      refine xSt_cg a5 ?_ (fun j => ?_) ?_ (fun j => ?_)
      · simp (disch := omega) only [n32_of, neg_n32_1, n32_nat, n32_lt, n32_le, n32_eq, n32_add, n32_sub, n32_mul, n32_m1, m1_n32, n32_addm1, m1_lt, lt_m1, m1_le, le_m1, m1_add1, ofNat_n32, u2_self, u2_n, mk_I, mk_T, hT, a6]
      · simp (disch := omega) only [n32_of, neg_n32_1, n32_nat, n32_lt, n32_le, n32_eq, n32_add, n32_sub, n32_mul, n32_m1, m1_n32, n32_addm1, m1_lt, lt_m1, m1_le, le_m1, m1_add1, ofNat_n32, u2_self, u2_n, mk_I, mk_T, hT, a6]
      · simp (disch := omega) only [n32_of, neg_n32_1, n32_nat, n32_lt, n32_le, n32_eq, n32_add, n32_sub, n32_mul, n32_m1, m1_n32, n32_addm1, m1_lt, lt_m1, m1_le, le_m1, m1_add1, ofNat_n32, u2_self, u2_n, mk_I, mk_T, hT, a6]
      · simp (disch := omega) only [n32_of, neg_n32_1, n32_nat, n32_lt, n32_le, n32_eq, n32_add, n32_sub, n32_mul, n32_m1, m1_n32, n32_addm1, m1_lt, lt_m1, m1_le, le_m1, m1_add1, ofNat_n32, u2_self, u2_n, mk_I, mk_T, hT, a6]
    · show _ = n32 (xR C).length
      simp (disch := omega) only [n32_of, neg_n32_1, n32_nat, n32_lt, n32_le, n32_eq, n32_add, n32_sub, n32_mul, n32_m1, m1_n32, n32_addm1, m1_lt, lt_m1, m1_le, le_m1, m1_add1, ofNat_n32, u2_self, u2_n, mk_I, mk_T, hT, a6]
    · have q4 : j < 0 + (xR C).length := q4
      simp (disch := omega) only [n32_of, neg_n32_1, n32_nat, n32_lt, n32_le, n32_eq, n32_add, n32_sub, n32_mul, n32_m1, m1_n32, n32_addm1, m1_lt, lt_m1, m1_le, le_m1, m1_add1, ofNat_n32, u2_self, u2_n, mk_I, mk_T, hT, a6]
    · simp (disch := omega) only [n32_of, neg_n32_1, n32_nat, n32_lt, n32_le, n32_eq, n32_add, n32_sub, n32_mul, n32_m1, m1_n32, n32_addm1, m1_lt, lt_m1, m1_le, le_m1, m1_add1, ofNat_n32, u2_self, u2_n, mk_I, mk_T, hT, a6, show xR (cNew (xR C) w) = xR C from rfl]
      rfl
    · simp (disch := omega) only [n32_of, neg_n32_1, n32_nat, n32_lt, n32_le, n32_eq, n32_add, n32_sub, n32_mul, n32_m1, m1_n32, n32_addm1, m1_lt, lt_m1, m1_le, le_m1, m1_add1, ofNat_n32, u2_self, u2_n, mk_I, mk_T, hT, a6, a56, show xR (cNew (xR C) w) = xR C from rfl]
theorem x_tk_open (ht : t = 2 ∨ 15 ≤ t) (hX : XI t f k 1 pt C c ws) (hP : PI k 1 pt C c ws) (hk : k < 400) : Ok (F_X8_take N (n32 24) (mk σ f)) (fun _ σ' => ∃ f', σ' = mk σ f' ∧ eqP t f f' ∧ XI t f' (k + 1) 1 pt C c (24 :: ws)) := by
  have hX0 := hX
  obtain ⟨⟨a1, a2, a3, a4⟩, a5, a6, a7, a8⟩ := hX
  obtain ⟨q1, q2, q3, q4, q5⟩ := PI_x hP
  unfold F_X8_take
  repeat (first | with_reducible refine ok_W ?_ | with_reducible refine ok_cO (by first | assumption | omega | (simp (disch := omega) only [n32_of, neg_n32_1, n32_nat, n32_lt, n32_le, n32_eq, n32_add, n32_sub, n32_mul, n32_m1, m1_n32, n32_addm1, m1_lt, lt_m1, m1_le, le_m1, m1_add1, ofNat_n32, u2_self, u2_n, mk_I, mk_T, ne_eq, not_true_eq_false, not_false_eq_true, a2, a1]; first | done | omega)) ?_ | with_reducible refine ok_ip (by first | assumption | omega | (simp (disch := omega) only [n32_of, neg_n32_1, n32_nat, n32_lt, n32_le, n32_eq, n32_add, n32_sub, n32_mul, n32_m1, m1_n32, n32_addm1, m1_lt, lt_m1, m1_le, le_m1, m1_add1, ofNat_n32, u2_self, u2_n, mk_I, mk_T, ne_eq, not_true_eq_false, not_false_eq_true, a2, a1]; first | done | omega)) ?_ | with_reducible refine ok_in (by first | assumption | omega | (simp (disch := omega) only [n32_of, neg_n32_1, n32_nat, n32_lt, n32_le, n32_eq, n32_add, n32_sub, n32_mul, n32_m1, m1_n32, n32_addm1, m1_lt, lt_m1, m1_le, le_m1, m1_add1, ofNat_n32, u2_self, u2_n, mk_I, mk_T, ne_eq, not_true_eq_false, not_false_eq_true, a2, a1]; first | done | omega)) ?_)
  repeat (first | with_reducible refine ok_W ?_ | with_reducible refine ok_cO (by first | assumption | omega | (simp (disch := omega) only [n32_of, neg_n32_1, n32_nat, n32_lt, n32_le, n32_eq, n32_add, n32_sub, n32_mul, n32_m1, m1_n32, n32_addm1, m1_lt, lt_m1, m1_le, le_m1, m1_add1, ofNat_n32, u2_self, u2_n, mk_I, mk_T, ne_eq, not_true_eq_false, not_false_eq_true, a4]; first | done | omega)) ?_ | with_reducible refine ok_ip (by first | assumption | omega | (simp (disch := omega) only [n32_of, neg_n32_1, n32_nat, n32_lt, n32_le, n32_eq, n32_add, n32_sub, n32_mul, n32_m1, m1_n32, n32_addm1, m1_lt, lt_m1, m1_le, le_m1, m1_add1, ofNat_n32, u2_self, u2_n, mk_I, mk_T, ne_eq, not_true_eq_false, not_false_eq_true, a4]; first | done | omega)) ?_ | with_reducible refine ok_in (by first | assumption | omega | (simp (disch := omega) only [n32_of, neg_n32_1, n32_nat, n32_lt, n32_le, n32_eq, n32_add, n32_sub, n32_mul, n32_m1, m1_n32, n32_addm1, m1_lt, lt_m1, m1_le, le_m1, m1_add1, ofNat_n32, u2_self, u2_n, mk_I, mk_T, ne_eq, not_true_eq_false, not_false_eq_true, a4]; first | done | omega)) ?_)
  have h5 : xSt t (u2 (u2 f 1 6 (n32 (k + 1))) 1 9 (n32 (opn ws + 1))) (ws ++ xPd pt C) (xCd C c) := xSt_cg a5 (by simp (disch := omega) only [n32_of, neg_n32_1, n32_nat, n32_lt, n32_le, n32_eq, n32_add, n32_sub, n32_mul, n32_m1, m1_n32, n32_addm1, m1_lt, lt_m1, m1_le, le_m1, m1_add1, ofNat_n32, u2_self, u2_n, mk_I, mk_T, ]) (fun j => by simp (disch := omega) only [n32_of, neg_n32_1, n32_nat, n32_lt, n32_le, n32_eq, n32_add, n32_sub, n32_mul, n32_m1, m1_n32, n32_addm1, m1_lt, lt_m1, m1_le, le_m1, m1_add1, ofNat_n32, u2_self, u2_n, mk_I, mk_T, ]) (by simp (disch := omega) only [n32_of, neg_n32_1, n32_nat, n32_lt, n32_le, n32_eq, n32_add, n32_sub, n32_mul, n32_m1, m1_n32, n32_addm1, m1_lt, lt_m1, m1_le, le_m1, m1_add1, ofNat_n32, u2_self, u2_n, mk_I, mk_T, ]) (fun j => by simp (disch := omega) only [n32_of, neg_n32_1, n32_nat, n32_lt, n32_le, n32_eq, n32_add, n32_sub, n32_mul, n32_m1, m1_n32, n32_addm1, m1_lt, lt_m1, m1_le, le_m1, m1_add1, ofNat_n32, u2_self, u2_n, mk_I, mk_T, ])
  simp (disch := omega) only [n32_of, neg_n32_1, n32_nat, n32_lt, n32_le, n32_eq, n32_add, n32_sub, n32_mul, n32_m1, m1_n32, n32_addm1, m1_lt, lt_m1, m1_le, le_m1, m1_add1, ofNat_n32, u2_self, u2_n, mk_I, mk_T, a2, a4]
  rw [x_pend h5.1.1 (by omega)]
  refine ok_oB (ok_some ?_)
  unfold J_X8_take_91
  refine ok_some ⟨_, rfl, ?_, ?_⟩
  · intro a j q1 q2 q3
    simp (disch := omega) only [n32_of, neg_n32_1, n32_nat, n32_lt, n32_le, n32_eq, n32_add, n32_sub, n32_mul, n32_m1, m1_n32, n32_addm1, m1_lt, lt_m1, m1_le, le_m1, m1_add1, ofNat_n32, u2_self, u2_n, mk_I, mk_T, ]
  · refine XI_ex hX0 (by omega) ?_ ?_ ?_ ?_ (xSt_pend ht h5) ?_ (fun a j q1 q2 => ?_)
    · simp (disch := omega) only [n32_of, neg_n32_1, n32_nat, n32_lt, n32_le, n32_eq, n32_add, n32_sub, n32_mul, n32_m1, m1_n32, n32_addm1, m1_lt, lt_m1, m1_le, le_m1, m1_add1, ofNat_n32, u2_self, u2_n, mk_I, mk_T, ]
      exact a1
    · simp (disch := omega) only [n32_of, neg_n32_1, n32_nat, n32_lt, n32_le, n32_eq, n32_add, n32_sub, n32_mul, n32_m1, m1_n32, n32_addm1, m1_lt, lt_m1, m1_le, le_m1, m1_add1, ofNat_n32, u2_self, u2_n, mk_I, mk_T, ]
    · simp (disch := omega) only [n32_of, neg_n32_1, n32_nat, n32_lt, n32_le, n32_eq, n32_add, n32_sub, n32_mul, n32_m1, m1_n32, n32_addm1, m1_lt, lt_m1, m1_le, le_m1, m1_add1, ofNat_n32, u2_self, u2_n, mk_I, mk_T, ]
    · rw [opn, if_pos rfl]
      simp (disch := omega) only [n32_of, neg_n32_1, n32_nat, n32_lt, n32_le, n32_eq, n32_add, n32_sub, n32_mul, n32_m1, m1_n32, n32_addm1, m1_lt, lt_m1, m1_le, le_m1, m1_add1, ofNat_n32, u2_self, u2_n, mk_I, mk_T, ]
    · simp (disch := omega) only [n32_of, neg_n32_1, n32_nat, n32_lt, n32_le, n32_eq, n32_add, n32_sub, n32_mul, n32_m1, m1_n32, n32_addm1, m1_lt, lt_m1, m1_le, le_m1, m1_add1, ofNat_n32, u2_self, u2_n, mk_I, mk_T, ]
    · simp (disch := omega) only [n32_of, neg_n32_1, n32_nat, n32_lt, n32_le, n32_eq, n32_add, n32_sub, n32_mul, n32_m1, m1_n32, n32_addm1, m1_lt, lt_m1, m1_le, le_m1, m1_add1, ofNat_n32, u2_self, u2_n, mk_I, mk_T, ]
theorem x_tk_opd {x : Nat} (ht : t = 2 ∨ 15 ≤ t) (hT : aTxt σ 1 2 = t) (hX : XI t f k 1 pt C c ws) (hP : PI k 1 pt C c ws) (hk : k < 400) (hx : x < 20000) (hx2 : x ≠ 24) : Ok (F_X8_take N (n32 x) (mk σ f)) (fun _ σ' => ∃ f', σ' = mk σ f' ∧ eqP t f f' ∧ XI t f' (k + 1) 2 pt C (c ++ [x]) ws) := by
  have hX0 := hX
  obtain ⟨⟨a1, a2, a3, a4⟩, a5, a6, a7, a8⟩ := hX
  obtain ⟨q1, q2, q3, q4, q5⟩ := PI_x hP
  unfold F_X8_take
  repeat (first | with_reducible refine ok_W ?_ | with_reducible refine ok_cO (by first | assumption | omega | (simp (disch := omega) only [n32_of, neg_n32_1, n32_nat, n32_lt, n32_le, n32_eq, n32_add, n32_sub, n32_mul, n32_m1, m1_n32, n32_addm1, m1_lt, lt_m1, m1_le, le_m1, m1_add1, ofNat_n32, u2_self, u2_n, mk_I, mk_T, ne_eq, not_true_eq_false, not_false_eq_true, a2, a1]; first | done | omega)) ?_ | with_reducible refine ok_ip (by first | assumption | omega | (simp (disch := omega) only [n32_of, neg_n32_1, n32_nat, n32_lt, n32_le, n32_eq, n32_add, n32_sub, n32_mul, n32_m1, m1_n32, n32_addm1, m1_lt, lt_m1, m1_le, le_m1, m1_add1, ofNat_n32, u2_self, u2_n, mk_I, mk_T, ne_eq, not_true_eq_false, not_false_eq_true, a2, a1]; first | done | omega)) ?_ | with_reducible refine ok_in (by first | assumption | omega | (simp (disch := omega) only [n32_of, neg_n32_1, n32_nat, n32_lt, n32_le, n32_eq, n32_add, n32_sub, n32_mul, n32_m1, m1_n32, n32_addm1, m1_lt, lt_m1, m1_le, le_m1, m1_add1, ofNat_n32, u2_self, u2_n, mk_I, mk_T, ne_eq, not_true_eq_false, not_false_eq_true, a2, a1]; first | done | omega)) ?_)
  have h5 : xSt t (u2 f 1 6 (n32 (k + 1))) (ws ++ xPd pt C) (xCd C c) := xSt_cg a5 (by simp (disch := omega) only [n32_of, neg_n32_1, n32_nat, n32_lt, n32_le, n32_eq, n32_add, n32_sub, n32_mul, n32_m1, m1_n32, n32_addm1, m1_lt, lt_m1, m1_le, le_m1, m1_add1, ofNat_n32, u2_self, u2_n, mk_I, mk_T, ]) (fun j => by simp (disch := omega) only [n32_of, neg_n32_1, n32_nat, n32_lt, n32_le, n32_eq, n32_add, n32_sub, n32_mul, n32_m1, m1_n32, n32_addm1, m1_lt, lt_m1, m1_le, le_m1, m1_add1, ofNat_n32, u2_self, u2_n, mk_I, mk_T, ]) (by simp (disch := omega) only [n32_of, neg_n32_1, n32_nat, n32_lt, n32_le, n32_eq, n32_add, n32_sub, n32_mul, n32_m1, m1_n32, n32_addm1, m1_lt, lt_m1, m1_le, le_m1, m1_add1, ofNat_n32, u2_self, u2_n, mk_I, mk_T, ]) (fun j => by simp (disch := omega) only [n32_of, neg_n32_1, n32_nat, n32_lt, n32_le, n32_eq, n32_add, n32_sub, n32_mul, n32_m1, m1_n32, n32_addm1, m1_lt, lt_m1, m1_le, le_m1, m1_add1, ofNat_n32, u2_self, u2_n, mk_I, mk_T, ])
  simp (disch := omega) only [n32_of, neg_n32_1, n32_nat, n32_lt, n32_le, n32_eq, n32_add, n32_sub, n32_mul, n32_m1, m1_n32, n32_addm1, m1_lt, lt_m1, m1_le, le_m1, m1_add1, ofNat_n32, u2_self, u2_n, mk_I, mk_T, a2, hT]
  rw [x_addCode h5.2.1 (by omega)]
  refine ok_oB (ok_some ?_)
  repeat (first | with_reducible refine ok_W ?_ | with_reducible refine ok_cO (by first | assumption | omega | (simp (disch := omega) only [n32_of, neg_n32_1, n32_nat, n32_lt, n32_le, n32_eq, n32_add, n32_sub, n32_mul, n32_m1, m1_n32, n32_addm1, m1_lt, lt_m1, m1_le, le_m1, m1_add1, ofNat_n32, u2_self, u2_n, mk_I, mk_T, ne_eq, not_true_eq_false, not_false_eq_true, ]; first | done | omega)) ?_ | with_reducible refine ok_ip (by first | assumption | omega | (simp (disch := omega) only [n32_of, neg_n32_1, n32_nat, n32_lt, n32_le, n32_eq, n32_add, n32_sub, n32_mul, n32_m1, m1_n32, n32_addm1, m1_lt, lt_m1, m1_le, le_m1, m1_add1, ofNat_n32, u2_self, u2_n, mk_I, mk_T, ne_eq, not_true_eq_false, not_false_eq_true, ]; first | done | omega)) ?_ | with_reducible refine ok_in (by first | assumption | omega | (simp (disch := omega) only [n32_of, neg_n32_1, n32_nat, n32_lt, n32_le, n32_eq, n32_add, n32_sub, n32_mul, n32_m1, m1_n32, n32_addm1, m1_lt, lt_m1, m1_le, le_m1, m1_add1, ofNat_n32, u2_self, u2_n, mk_I, mk_T, ne_eq, not_true_eq_false, not_false_eq_true, ]; first | done | omega)) ?_)
  unfold J_X8_take_91
  refine ok_some ⟨_, rfl, ?_, ?_⟩
  · intro a j q1 q2 q3
    simp (disch := omega) only [n32_of, neg_n32_1, n32_nat, n32_lt, n32_le, n32_eq, n32_add, n32_sub, n32_mul, n32_m1, m1_n32, n32_addm1, m1_lt, lt_m1, m1_le, le_m1, m1_add1, ofNat_n32, u2_self, u2_n, mk_I, mk_T, ]
  · refine XI_ex hX0 (by omega) ?_ ?_ ?_ ?_ ?_ ?_ (fun a j q1 q2 => ?_)
    · simp (disch := omega) only [n32_of, neg_n32_1, n32_nat, n32_lt, n32_le, n32_eq, n32_add, n32_sub, n32_mul, n32_m1, m1_n32, n32_addm1, m1_lt, lt_m1, m1_le, le_m1, m1_add1, ofNat_n32, u2_self, u2_n, mk_I, mk_T, ]
    · simp (disch := omega) only [n32_of, neg_n32_1, n32_nat, n32_lt, n32_le, n32_eq, n32_add, n32_sub, n32_mul, n32_m1, m1_n32, n32_addm1, m1_lt, lt_m1, m1_le, le_m1, m1_add1, ofNat_n32, u2_self, u2_n, mk_I, mk_T, ]
    · simp (disch := omega) only [n32_of, neg_n32_1, n32_nat, n32_lt, n32_le, n32_eq, n32_add, n32_sub, n32_mul, n32_m1, m1_n32, n32_addm1, m1_lt, lt_m1, m1_le, le_m1, m1_add1, ofNat_n32, u2_self, u2_n, mk_I, mk_T, ]
    · simp (disch := omega) only [n32_of, neg_n32_1, n32_nat, n32_lt, n32_le, n32_eq, n32_add, n32_sub, n32_mul, n32_m1, m1_n32, n32_addm1, m1_lt, lt_m1, m1_le, le_m1, m1_add1, ofNat_n32, u2_self, u2_n, mk_I, mk_T, ]
      exact a4
    · rw [xCd_app]
      exact xSt_cg (xSt_add (x := x) ht h5) (by simp (disch := omega) only [n32_of, neg_n32_1, n32_nat, n32_lt, n32_le, n32_eq, n32_add, n32_sub, n32_mul, n32_m1, m1_n32, n32_addm1, m1_lt, lt_m1, m1_le, le_m1, m1_add1, ofNat_n32, u2_self, u2_n, mk_I, mk_T, ]) (fun j => by simp (disch := omega) only [n32_of, neg_n32_1, n32_nat, n32_lt, n32_le, n32_eq, n32_add, n32_sub, n32_mul, n32_m1, m1_n32, n32_addm1, m1_lt, lt_m1, m1_le, le_m1, m1_add1, ofNat_n32, u2_self, u2_n, mk_I, mk_T, ]) (by simp (disch := omega) only [n32_of, neg_n32_1, n32_nat, n32_lt, n32_le, n32_eq, n32_add, n32_sub, n32_mul, n32_m1, m1_n32, n32_addm1, m1_lt, lt_m1, m1_le, le_m1, m1_add1, ofNat_n32, u2_self, u2_n, mk_I, mk_T, ]) (fun j => by simp (disch := omega) only [n32_of, neg_n32_1, n32_nat, n32_lt, n32_le, n32_eq, n32_add, n32_sub, n32_mul, n32_m1, m1_n32, n32_addm1, m1_lt, lt_m1, m1_le, le_m1, m1_add1, ofNat_n32, u2_self, u2_n, mk_I, mk_T, ])
    · simp (disch := omega) only [n32_of, neg_n32_1, n32_nat, n32_lt, n32_le, n32_eq, n32_add, n32_sub, n32_mul, n32_m1, m1_n32, n32_addm1, m1_lt, lt_m1, m1_le, le_m1, m1_add1, ofNat_n32, u2_self, u2_n, mk_I, mk_T, ]
    · simp (disch := omega) only [n32_of, neg_n32_1, n32_nat, n32_lt, n32_le, n32_eq, n32_add, n32_sub, n32_mul, n32_m1, m1_n32, n32_addm1, m1_lt, lt_m1, m1_le, le_m1, m1_add1, ofNat_n32, u2_self, u2_n, mk_I, mk_T, ]
/-- what is done behind a unit once what waits is settled -/
def tbB (N : Nat) (x1 : Int32) (σ15 : aSt) : Option (Unit × aSt) := if x1 ≠ 25 then if x1 ≠ 16 then if x1 ≠ 3 then oB (F_X8_takeOperator N x1 σ15) fun _ σ23 => J_X8_takeBehindUnit_96 N σ23 else oB (F_X10_endValue N (aTxt σ15 1 2) σ15) fun _ σ28 => lt (aWI σ28 1 8 1) fun σ32 => lt (aWI σ32 1 7 1) fun σ35 => J_X8_takeBehindUnit_96 N σ35 else if (aI σ15 1 8) ≠ 0 then J_X8_takeBehindUnit_51 N σ15 else oB (F_X10_endValue N (aTxt σ15 1 2) σ15) fun _ σ40 => J_X8_takeBehindUnit_51 N σ40 else lt (aWI σ15 1 9 ((aI σ15 1 9) - 1)) fun σ44 => oB (F_X8_dropOpen N σ44) fun _ σ48 => J_X8_takeBehindUnit_96 N σ48
theorem x_behind {x : Nat} {Q : Unit → aSt → Prop} (hN : 100 ≤ N) (ht : t = 2 ∨ 15 ≤ t) (hT : aTxt σ 1 2 = t) (hX : XI t f k 2 pt C c ws) (hP : PI k 2 pt C c ws) (hk : k < 400) (hx : x < 20000) (K : ∀ g, xSt t g (ppB (rkx x) (ws ++ xPd pt C)) (xCd C c ++ ppA (rkx x) (ws ++ xPd pt C)) → g 1 6 = n32 (k + 1) → (∀ a j, (a ≠ 1 ∨ (j ≠ 11 ∧ j ≠ 6)) → (a ≠ t ∨ j ≠ 6) → a ≠ t + 5 → g a j = f a j) → Ok (tbB N (n32 x) (mk σ g)) Q) : Ok (F_X8_take N (n32 x) (mk σ f)) Q := by
  obtain ⟨⟨a1, a2, a3, a4⟩, a5, a6, a7, a8⟩ := hX
  obtain ⟨q1, q2, q3, q4, q5⟩ := PI_x hP
  have hr : rkx x ≤ 5 := by
    unfold rkx
    repeat' split
    all_goals omega
  have hk' := hP.1
  unfold F_X8_take
  repeat (first | with_reducible refine ok_W ?_ | with_reducible refine ok_cO (by first | assumption | omega | (simp (disch := omega) only [n32_of, neg_n32_1, n32_nat, n32_lt, n32_le, n32_eq, n32_add, n32_sub, n32_mul, n32_m1, m1_n32, n32_addm1, m1_lt, lt_m1, m1_le, le_m1, m1_add1, ofNat_n32, u2_self, u2_n, mk_I, mk_T, ne_eq, not_true_eq_false, not_false_eq_true, a2, a1]; first | done | omega)) ?_ | with_reducible refine ok_ip (by first | assumption | omega | (simp (disch := omega) only [n32_of, neg_n32_1, n32_nat, n32_lt, n32_le, n32_eq, n32_add, n32_sub, n32_mul, n32_m1, m1_n32, n32_addm1, m1_lt, lt_m1, m1_le, le_m1, m1_add1, ofNat_n32, u2_self, u2_n, mk_I, mk_T, ne_eq, not_true_eq_false, not_false_eq_true, a2, a1]; first | done | omega)) ?_ | with_reducible refine ok_in (by first | assumption | omega | (simp (disch := omega) only [n32_of, neg_n32_1, n32_nat, n32_lt, n32_le, n32_eq, n32_add, n32_sub, n32_mul, n32_m1, m1_n32, n32_addm1, m1_lt, lt_m1, m1_le, le_m1, m1_add1, ofNat_n32, u2_self, u2_n, mk_I, mk_T, ne_eq, not_true_eq_false, not_false_eq_true, a2, a1]; first | done | omega)) ?_)
  have h5 : xSt t (u2 f 1 6 (n32 (k + 1))) (ws ++ xPd pt C) (xCd C c) := xSt_cg a5 (by simp (disch := omega) only [n32_of, neg_n32_1, n32_nat, n32_lt, n32_le, n32_eq, n32_add, n32_sub, n32_mul, n32_m1, m1_n32, n32_addm1, m1_lt, lt_m1, m1_le, le_m1, m1_add1, ofNat_n32, u2_self, u2_n, mk_I, mk_T, ]) (fun j => by simp (disch := omega) only [n32_of, neg_n32_1, n32_nat, n32_lt, n32_le, n32_eq, n32_add, n32_sub, n32_mul, n32_m1, m1_n32, n32_addm1, m1_lt, lt_m1, m1_le, le_m1, m1_add1, ofNat_n32, u2_self, u2_n, mk_I, mk_T, ]) (by simp (disch := omega) only [n32_of, neg_n32_1, n32_nat, n32_lt, n32_le, n32_eq, n32_add, n32_sub, n32_mul, n32_m1, m1_n32, n32_addm1, m1_lt, lt_m1, m1_le, le_m1, m1_add1, ofNat_n32, u2_self, u2_n, mk_I, mk_T, ]) (fun j => by simp (disch := omega) only [n32_of, neg_n32_1, n32_nat, n32_lt, n32_le, n32_eq, n32_add, n32_sub, n32_mul, n32_m1, m1_n32, n32_addm1, m1_lt, lt_m1, m1_le, le_m1, m1_add1, ofNat_n32, u2_self, u2_n, mk_I, mk_T, ])
  simp (disch := omega) only [n32_of, neg_n32_1, n32_nat, n32_lt, n32_le, n32_eq, n32_add, n32_sub, n32_mul, n32_m1, m1_n32, n32_addm1, m1_lt, lt_m1, m1_le, le_m1, m1_add1, ofNat_n32, u2_self, u2_n, mk_I, mk_T, a2]
  unfold F_X8_takeBehindUnit
  rw [s_rank hx, oB_s]
  refine ok_oB (ok_oB ?_)
  unfold F_X8_settle
  refine ok_mono (x_settle (r := rkx x) ht hT hr N _ _ _ (by omega) h5 (by omega) (by omega) q4) (fun u σ' hq => ?_)
  obtain ⟨g, rfl, g1, g2⟩ := hq
  refine ok_mono (K g g1 ?_ (fun a j b1 b2 b3 => ?_)) (fun u σ' hq => ?_)
  · rw [g2 _ _ (by omega) (by omega) (by omega), u2_self]
  · rw [g2 a j (by omega) b2 b3, u2_n (by omega)]
  · exact ok_some hq
theorem x_tk_close (hN : 100 ≤ N) (ht : t = 2 ∨ 15 ≤ t) (hT : aTxt σ 1 2 = t) (hX : XI t f k 2 pt C c ws) (hP : PI k 2 pt C c ws) (hk : k < 400) (ho : 0 < opn ws) : Ok (F_X8_take N (n32 25) (mk σ f)) (fun _ σ' => ∃ f', σ' = mk σ f' ∧ eqP t f f' ∧ XI t f' (k + 1) 2 pt C (c ++ ppA 1 ws) (ppB 1 ws).tail) := by
  have hX0 := hX
  obtain ⟨⟨a1, a2, a3, a4⟩, a5, a6, a7, a8⟩ := hX
  obtain ⟨s, e1, e2, e3⟩ := PI_close hP hk ho
  have h6 := (PI_x hP).2.2.2.2.1
  refine x_behind hN ht hT hX0 hP hk (by omega) (fun g g1 g2 g3 => ?_)
  obtain ⟨z1, z2⟩ := pp_stop (r := 1) ws (xPd pt C) (Or.inl ⟨24, opn_mem ws ho, by decide⟩)
  rw [show rkx 25 = 1 from rfl, z1, z2, e1, List.cons_append] at g1
  have g11 := g1.1.1
  rw [List.length_cons] at g11
  have hsl : (s ++ xPd pt C).length ≤ 23 := by
    have z := (PI_x hP).2.2.1
    have y := pp_len 1 ws
    rw [e1, List.length_cons] at y
    rw [List.length_append] at z ⊢
    omega
  have g9 : g 1 9 = n32 (opn ws) := (g3 _ _ (by omega) (by omega) (by omega)).trans a4
  unfold tbB F_X8_dropOpen J_X8_dropOpen_17 J_X8_takeBehindUnit_96
  repeat (first | with_reducible refine ok_W ?_ | with_reducible refine ok_cO (by first | assumption | omega | (simp (disch := omega) only [n32_of, neg_n32_1, n32_nat, n32_lt, n32_le, n32_eq, n32_add, n32_sub, n32_mul, n32_m1, m1_n32, n32_addm1, m1_lt, lt_m1, m1_le, le_m1, m1_add1, ofNat_n32, u2_self, u2_n, mk_I, mk_T, ne_eq, not_true_eq_false, not_false_eq_true, ]; first | done | omega)) ?_ | with_reducible refine ok_ip (by first | assumption | omega | (simp (disch := omega) only [n32_of, neg_n32_1, n32_nat, n32_lt, n32_le, n32_eq, n32_add, n32_sub, n32_mul, n32_m1, m1_n32, n32_addm1, m1_lt, lt_m1, m1_le, le_m1, m1_add1, ofNat_n32, u2_self, u2_n, mk_I, mk_T, ne_eq, not_true_eq_false, not_false_eq_true, ]; first | done | omega)) ?_ | with_reducible refine ok_in (by first | assumption | omega | (simp (disch := omega) only [n32_of, neg_n32_1, n32_nat, n32_lt, n32_le, n32_eq, n32_add, n32_sub, n32_mul, n32_m1, m1_n32, n32_addm1, m1_lt, lt_m1, m1_le, le_m1, m1_add1, ofNat_n32, u2_self, u2_n, mk_I, mk_T, ne_eq, not_true_eq_false, not_false_eq_true, ]; first | done | omega)) ?_)
  refine ok_oB ?_
  repeat (first | with_reducible refine ok_W ?_ | with_reducible refine ok_cO (by first | assumption | omega | (simp (disch := omega) only [n32_of, neg_n32_1, n32_nat, n32_lt, n32_le, n32_eq, n32_add, n32_sub, n32_mul, n32_m1, m1_n32, n32_addm1, m1_lt, lt_m1, m1_le, le_m1, m1_add1, ofNat_n32, u2_self, u2_n, mk_I, mk_T, ne_eq, not_true_eq_false, not_false_eq_true, g11]; first | done | omega)) ?_ | with_reducible refine ok_ip (by first | assumption | omega | (simp (disch := omega) only [n32_of, neg_n32_1, n32_nat, n32_lt, n32_le, n32_eq, n32_add, n32_sub, n32_mul, n32_m1, m1_n32, n32_addm1, m1_lt, lt_m1, m1_le, le_m1, m1_add1, ofNat_n32, u2_self, u2_n, mk_I, mk_T, ne_eq, not_true_eq_false, not_false_eq_true, g11]; first | done | omega)) ?_ | with_reducible refine ok_in (by first | assumption | omega | (simp (disch := omega) only [n32_of, neg_n32_1, n32_nat, n32_lt, n32_le, n32_eq, n32_add, n32_sub, n32_mul, n32_m1, m1_n32, n32_addm1, m1_lt, lt_m1, m1_le, le_m1, m1_add1, ofNat_n32, u2_self, u2_n, mk_I, mk_T, ne_eq, not_true_eq_false, not_false_eq_true, g11]; first | done | omega)) ?_)
  refine ok_some ?_
  refine ok_some ⟨_, rfl, ?_, ?_⟩
  · intro a j q1 q2 q3
    simp (disch := omega) only [n32_of, neg_n32_1, n32_nat, n32_lt, n32_le, n32_eq, n32_add, n32_sub, n32_mul, n32_m1, m1_n32, n32_addm1, m1_lt, lt_m1, m1_le, le_m1, m1_add1, ofNat_n32, u2_self, u2_n, mk_I, mk_T, ]
    exact g3 a j (by omega) (by omega) (by omega)
  · refine XI_ex hX0 (by omega) ?_ ?_ ?_ ?_ ?_ ?_ (fun a j q1 q2 => ?_)
    · simp (disch := omega) only [n32_of, neg_n32_1, n32_nat, n32_lt, n32_le, n32_eq, n32_add, n32_sub, n32_mul, n32_m1, m1_n32, n32_addm1, m1_lt, lt_m1, m1_le, le_m1, m1_add1, ofNat_n32, u2_self, u2_n, mk_I, mk_T, ]
      exact (g3 _ _ (by omega) (by omega) (by omega)).trans a1
    · simp (disch := omega) only [n32_of, neg_n32_1, n32_nat, n32_lt, n32_le, n32_eq, n32_add, n32_sub, n32_mul, n32_m1, m1_n32, n32_addm1, m1_lt, lt_m1, m1_le, le_m1, m1_add1, ofNat_n32, u2_self, u2_n, mk_I, mk_T, ]
      exact g2
    · simp (disch := omega) only [n32_of, neg_n32_1, n32_nat, n32_lt, n32_le, n32_eq, n32_add, n32_sub, n32_mul, n32_m1, m1_n32, n32_addm1, m1_lt, lt_m1, m1_le, le_m1, m1_add1, ofNat_n32, u2_self, u2_n, mk_I, mk_T, ]
      exact g3 _ _ (by omega) (by omega) (by omega)
    · rw [e1, List.tail_cons]
      simp (disch := omega) only [n32_of, neg_n32_1, n32_nat, n32_lt, n32_le, n32_eq, n32_add, n32_sub, n32_mul, n32_m1, m1_n32, n32_addm1, m1_lt, lt_m1, m1_le, le_m1, m1_add1, ofNat_n32, u2_self, u2_n, mk_I, mk_T, g9]
      rw [← e2, Nat.add_sub_cancel]
    · rw [xCd_app, e1, List.tail_cons]
      obtain ⟨⟨b1, b2⟩, b3, b4⟩ := g1
      refine ⟨⟨?_, pst_cg _ b2.2 (fun j _ => ?_)⟩, ?_, seg_cg b4 (fun j => ?_)⟩
      · simp (disch := omega) only [n32_of, neg_n32_1, n32_nat, n32_lt, n32_le, n32_eq, n32_add, n32_sub, n32_mul, n32_m1, m1_n32, n32_addm1, m1_lt, lt_m1, m1_le, le_m1, m1_add1, ofNat_n32, u2_self, u2_n, mk_I, mk_T, g11, Nat.add_sub_cancel]
      · simp (disch := omega) only [n32_of, neg_n32_1, n32_nat, n32_lt, n32_le, n32_eq, n32_add, n32_sub, n32_mul, n32_m1, m1_n32, n32_addm1, m1_lt, lt_m1, m1_le, le_m1, m1_add1, ofNat_n32, u2_self, u2_n, mk_I, mk_T, ]
      · simp (disch := omega) only [n32_of, neg_n32_1, n32_nat, n32_lt, n32_le, n32_eq, n32_add, n32_sub, n32_mul, n32_m1, m1_n32, n32_addm1, m1_lt, lt_m1, m1_le, le_m1, m1_add1, ofNat_n32, u2_self, u2_n, mk_I, mk_T, ]
        exact b3
      · simp (disch := omega) only [n32_of, neg_n32_1, n32_nat, n32_lt, n32_le, n32_eq, n32_add, n32_sub, n32_mul, n32_m1, m1_n32, n32_addm1, m1_lt, lt_m1, m1_le, le_m1, m1_add1, ofNat_n32, u2_self, u2_n, mk_I, mk_T, ]
    · simp (disch := omega) only [n32_of, neg_n32_1, n32_nat, n32_lt, n32_le, n32_eq, n32_add, n32_sub, n32_mul, n32_m1, m1_n32, n32_addm1, m1_lt, lt_m1, m1_le, le_m1, m1_add1, ofNat_n32, u2_self, u2_n, mk_I, mk_T, ]
      exact g3 _ _ (by omega) (by omega) (by omega)
    · simp (disch := omega) only [n32_of, neg_n32_1, n32_nat, n32_lt, n32_le, n32_eq, n32_add, n32_sub, n32_mul, n32_m1, m1_n32, n32_addm1, m1_lt, lt_m1, m1_le, le_m1, m1_add1, ofNat_n32, u2_self, u2_n, mk_I, mk_T, ]
      exact g3 _ _ (by omega) (by omega) (by omega)
theorem x_tk_op {x : Nat} (hN : 100 ≤ N) (ht : t = 2 ∨ 15 ≤ t) (hT : aTxt σ 1 2 = t) (hX : XI t f k 2 pt C c ws) (hP : PI k 2 pt C c ws) (hk : k < 400) (hx : x = 17 ∨ x = 18 ∨ x = 19) : Ok (F_X8_take N (n32 x) (mk σ f)) (fun _ σ' => ∃ f', σ' = mk σ f' ∧ eqP t f f' ∧ XI t f' (k + 1) 1 pt C (c ++ ppA (rkx x) ws) (x :: ppB (rkx x) ws)) := by
  have hX0 := hX
  obtain ⟨⟨a1, a2, a3, a4⟩, a5, a6, a7, a8⟩ := hX
  obtain ⟨q1, q2, q3, q4, q5⟩ := PI_x hP
  have hr : 4 ≤ rkx x := by rcases hx with rfl | rfl | rfl <;> decide
  refine x_behind hN ht hT hX0 hP hk (by omega) (fun g g1 g2 g3 => ?_)
  obtain ⟨-, -, z0⟩ := xPd_lt (pt := pt) (C := C) (fun q => (hP.2.1.2.2.2.2.2.2.2 q).2)
  obtain ⟨z1, z2⟩ := pp_stop (r := rkx x) ws (xPd pt C) (Or.inr (fun y hy => by have := z0 y hy; omega))
  rw [z1, z2] at g1
  have hl : (ppB (rkx x) ws ++ xPd pt C).length < 32 := by
    have := pp_len (rkx x) ws
    rw [List.length_append] at q3 ⊢
    omega
  have io := (pp_shp (r := rkx x) (by omega) ws q5.2).2.1
  unfold tbB F_X8_takeOperator J_X8_takeBehindUnit_96 J_X8_takeOperator_40
  repeat (first | with_reducible refine ok_W ?_ | with_reducible refine ok_cO (by first | assumption | omega | (simp (disch := omega) only [n32_of, neg_n32_1, n32_nat, n32_lt, n32_le, n32_eq, n32_add, n32_sub, n32_mul, n32_m1, m1_n32, n32_addm1, m1_lt, lt_m1, m1_le, le_m1, m1_add1, ofNat_n32, u2_self, u2_n, mk_I, mk_T, ne_eq, not_true_eq_false, not_false_eq_true, ]; first | done | omega)) ?_ | with_reducible refine ok_ip (by first | assumption | omega | (simp (disch := omega) only [n32_of, neg_n32_1, n32_nat, n32_lt, n32_le, n32_eq, n32_add, n32_sub, n32_mul, n32_m1, m1_n32, n32_addm1, m1_lt, lt_m1, m1_le, le_m1, m1_add1, ofNat_n32, u2_self, u2_n, mk_I, mk_T, ne_eq, not_true_eq_false, not_false_eq_true, ]; first | done | omega)) ?_ | with_reducible refine ok_in (by first | assumption | omega | (simp (disch := omega) only [n32_of, neg_n32_1, n32_nat, n32_lt, n32_le, n32_eq, n32_add, n32_sub, n32_mul, n32_m1, m1_n32, n32_addm1, m1_lt, lt_m1, m1_le, le_m1, m1_add1, ofNat_n32, u2_self, u2_n, mk_I, mk_T, ne_eq, not_true_eq_false, not_false_eq_true, ]; first | done | omega)) ?_)
  rw [x_pend g1.1.1 hl]
  refine ok_oB (ok_oB (ok_some ?_))
  repeat (first | with_reducible refine ok_W ?_ | with_reducible refine ok_cO (by first | assumption | omega | (simp (disch := omega) only [n32_of, neg_n32_1, n32_nat, n32_lt, n32_le, n32_eq, n32_add, n32_sub, n32_mul, n32_m1, m1_n32, n32_addm1, m1_lt, lt_m1, m1_le, le_m1, m1_add1, ofNat_n32, u2_self, u2_n, mk_I, mk_T, ne_eq, not_true_eq_false, not_false_eq_true, ]; first | done | omega)) ?_ | with_reducible refine ok_ip (by first | assumption | omega | (simp (disch := omega) only [n32_of, neg_n32_1, n32_nat, n32_lt, n32_le, n32_eq, n32_add, n32_sub, n32_mul, n32_m1, m1_n32, n32_addm1, m1_lt, lt_m1, m1_le, le_m1, m1_add1, ofNat_n32, u2_self, u2_n, mk_I, mk_T, ne_eq, not_true_eq_false, not_false_eq_true, ]; first | done | omega)) ?_ | with_reducible refine ok_in (by first | assumption | omega | (simp (disch := omega) only [n32_of, neg_n32_1, n32_nat, n32_lt, n32_le, n32_eq, n32_add, n32_sub, n32_mul, n32_m1, m1_n32, n32_addm1, m1_lt, lt_m1, m1_le, le_m1, m1_add1, ofNat_n32, u2_self, u2_n, mk_I, mk_T, ne_eq, not_true_eq_false, not_false_eq_true, ]; first | done | omega)) ?_)
  rw [s_isRelation (by omega)]
  refine ok_oB (ok_some ?_)
  refine ok_ip (nz (by omega)) ?_
  repeat (first | with_reducible refine ok_W ?_ | with_reducible refine ok_cO (by first | assumption | omega | (simp (disch := omega) only [n32_of, neg_n32_1, n32_nat, n32_lt, n32_le, n32_eq, n32_add, n32_sub, n32_mul, n32_m1, m1_n32, n32_addm1, m1_lt, lt_m1, m1_le, le_m1, m1_add1, ofNat_n32, u2_self, u2_n, mk_I, mk_T, ne_eq, not_true_eq_false, not_false_eq_true, ]; first | done | omega)) ?_ | with_reducible refine ok_ip (by first | assumption | omega | (simp (disch := omega) only [n32_of, neg_n32_1, n32_nat, n32_lt, n32_le, n32_eq, n32_add, n32_sub, n32_mul, n32_m1, m1_n32, n32_addm1, m1_lt, lt_m1, m1_le, le_m1, m1_add1, ofNat_n32, u2_self, u2_n, mk_I, mk_T, ne_eq, not_true_eq_false, not_false_eq_true, ]; first | done | omega)) ?_ | with_reducible refine ok_in (by first | assumption | omega | (simp (disch := omega) only [n32_of, neg_n32_1, n32_nat, n32_lt, n32_le, n32_eq, n32_add, n32_sub, n32_mul, n32_m1, m1_n32, n32_addm1, m1_lt, lt_m1, m1_le, le_m1, m1_add1, ofNat_n32, u2_self, u2_n, mk_I, mk_T, ne_eq, not_true_eq_false, not_false_eq_true, ]; first | done | omega)) ?_)
  refine ok_some (ok_some ⟨_, rfl, ?_, ?_⟩)
  · intro a j q1 q2 q3
    simp (disch := omega) only [n32_of, neg_n32_1, n32_nat, n32_lt, n32_le, n32_eq, n32_add, n32_sub, n32_mul, n32_m1, m1_n32, n32_addm1, m1_lt, lt_m1, m1_le, le_m1, m1_add1, ofNat_n32, u2_self, u2_n, mk_I, mk_T, ]
    exact g3 a j (by omega) (by omega) (by omega)
  · refine XI_ex hX0 (by omega) ?_ ?_ ?_ ?_ ?_ ?_ (fun a j q1 q2 => ?_)
    · simp (disch := omega) only [n32_of, neg_n32_1, n32_nat, n32_lt, n32_le, n32_eq, n32_add, n32_sub, n32_mul, n32_m1, m1_n32, n32_addm1, m1_lt, lt_m1, m1_le, le_m1, m1_add1, ofNat_n32, u2_self, u2_n, mk_I, mk_T, ]
    · simp (disch := omega) only [n32_of, neg_n32_1, n32_nat, n32_lt, n32_le, n32_eq, n32_add, n32_sub, n32_mul, n32_m1, m1_n32, n32_addm1, m1_lt, lt_m1, m1_le, le_m1, m1_add1, ofNat_n32, u2_self, u2_n, mk_I, mk_T, ]
      exact g2
    · simp (disch := omega) only [n32_of, neg_n32_1, n32_nat, n32_lt, n32_le, n32_eq, n32_add, n32_sub, n32_mul, n32_m1, m1_n32, n32_addm1, m1_lt, lt_m1, m1_le, le_m1, m1_add1, ofNat_n32, u2_self, u2_n, mk_I, mk_T, ]
      exact g3 _ _ (by omega) (by omega) (by omega)
    · rw [opn, if_neg (by omega), io]
      simp (disch := omega) only [n32_of, neg_n32_1, n32_nat, n32_lt, n32_le, n32_eq, n32_add, n32_sub, n32_mul, n32_m1, m1_n32, n32_addm1, m1_lt, lt_m1, m1_le, le_m1, m1_add1, ofNat_n32, u2_self, u2_n, mk_I, mk_T, ]
      exact (g3 _ _ (by omega) (by omega) (by omega)).trans a4
    · rw [xCd_app, List.cons_append]
      exact xSt_cg (xSt_pend (x := x) ht g1) (by simp (disch := omega) only [n32_of, neg_n32_1, n32_nat, n32_lt, n32_le, n32_eq, n32_add, n32_sub, n32_mul, n32_m1, m1_n32, n32_addm1, m1_lt, lt_m1, m1_le, le_m1, m1_add1, ofNat_n32, u2_self, u2_n, mk_I, mk_T, ]) (fun j => by simp (disch := omega) only [n32_of, neg_n32_1, n32_nat, n32_lt, n32_le, n32_eq, n32_add, n32_sub, n32_mul, n32_m1, m1_n32, n32_addm1, m1_lt, lt_m1, m1_le, le_m1, m1_add1, ofNat_n32, u2_self, u2_n, mk_I, mk_T, ]) (by simp (disch := omega) only [n32_of, neg_n32_1, n32_nat, n32_lt, n32_le, n32_eq, n32_add, n32_sub, n32_mul, n32_m1, m1_n32, n32_addm1, m1_lt, lt_m1, m1_le, le_m1, m1_add1, ofNat_n32, u2_self, u2_n, mk_I, mk_T, ]) (fun j => by simp (disch := omega) only [n32_of, neg_n32_1, n32_nat, n32_lt, n32_le, n32_eq, n32_add, n32_sub, n32_mul, n32_m1, m1_n32, n32_addm1, m1_lt, lt_m1, m1_le, le_m1, m1_add1, ofNat_n32, u2_self, u2_n, mk_I, mk_T, ])
    · simp (disch := omega) only [n32_of, neg_n32_1, n32_nat, n32_lt, n32_le, n32_eq, n32_add, n32_sub, n32_mul, n32_m1, m1_n32, n32_addm1, m1_lt, lt_m1, m1_le, le_m1, m1_add1, ofNat_n32, u2_self, u2_n, mk_I, mk_T, ]
      exact g3 _ _ (by omega) (by omega) (by omega)
    · simp (disch := omega) only [n32_of, neg_n32_1, n32_nat, n32_lt, n32_le, n32_eq, n32_add, n32_sub, n32_mul, n32_m1, m1_n32, n32_addm1, m1_lt, lt_m1, m1_le, le_m1, m1_add1, ofNat_n32, u2_self, u2_n, mk_I, mk_T, ]
      exact g3 _ _ (by omega) (by omega) (by omega)
theorem pd_all {r : Nat} (hr : r ≤ 4) (hs : shp ws) (ho : opn ws = 0) (X : List Nat) : ppA r (ws ++ X) = ws ++ ppA r X ∧ ppB r (ws ++ X) = ppB r X := by
  refine pp_app ws X (fun x hx => ?_)
  have h1 := shp_mem _ hs x hx
  have h2 : x ≠ 24 := by
    intro e
    subst e
    have : ∀ l : List Nat, 24 ∈ l → 0 < opn l := by
      intro l
      induction l with
      | nil => intro h; cases h
      | cons y l ih =>
        intro h
        rw [opn]
        by_cases e : y = 24
        · rw [if_pos e]; omega
        · rw [if_neg e]
          rcases List.mem_cons.mp h with q | q
          · exact absurd q.symm e
          · exact ih q
    have := this ws hx
    omega
  rcases h1 with rfl | rfl | rfl | rfl
  · exact hr
  · exact hr
  · exact Nat.le_succ_of_le hr
  · exact absurd rfl h2
theorem x_endValue {g : pln} {r l : Nat} (h0 : g t 0 = n32 r) (hr : r < 20) (h6 : g t 6 = n32 l) : F_X10_endValue N t (mk σ g) = some ((), mk σ (u2 g (t + 3) r (n32 l))) := by
  unfold F_X10_endValue J_X10_endValue_22
  rw [if_neg (by first | assumption | omega | (simp (disch := omega) only [n32_of, neg_n32_1, n32_nat, n32_lt, n32_le, n32_eq, n32_add, n32_sub, n32_mul, n32_m1, m1_n32, n32_addm1, m1_lt, lt_m1, m1_le, le_m1, m1_add1, ofNat_n32, u2_self, u2_n, mk_I, mk_T, ne_eq, not_true_eq_false, not_false_eq_true, h0]; first | done | omega)), cO_t (by first | assumption | omega | (simp (disch := omega) only [n32_of, neg_n32_1, n32_nat, n32_lt, n32_le, n32_eq, n32_add, n32_sub, n32_mul, n32_m1, m1_n32, n32_addm1, m1_lt, lt_m1, m1_le, le_m1, m1_add1, ofNat_n32, u2_self, u2_n, mk_I, mk_T, ne_eq, not_true_eq_false, not_false_eq_true, h0]; first | done | omega)), lt_d, mk_W]
  simp (disch := omega) only [n32_of, neg_n32_1, n32_nat, n32_lt, n32_le, n32_eq, n32_add, n32_sub, n32_mul, n32_m1, m1_n32, n32_addm1, m1_lt, lt_m1, m1_le, le_m1, m1_add1, ofNat_n32, u2_self, u2_n, mk_I, mk_T, h0, h6]
theorem x_tk_if (hN : 100 ≤ N) (ht : t = 2 ∨ 15 ≤ t) (hT : aTxt σ 1 2 = t) (hX : XI t f k 2 0 C c ws) (hP : PI k 2 0 C c ws) (hk : k < 400) (ho : opn ws = 0) : Ok (F_X8_take N (n32 3) (mk σ f)) (fun _ σ' => ∃ f', σ' = mk σ f' ∧ eqP t f f' ∧ XI t f' (k + 1) 1 1 (cIfE C (c ++ ws)) [] []) := by
  have hX0 := hX
  obtain ⟨⟨a1, a2, a3, a4⟩, a5, a6, a7, a8⟩ := hX
  obtain ⟨q1, q2, q3, q4, q5⟩ := PI_x hP
  have hl := (hP.2.1.2.1 (by omega)).2
  obtain ⟨v0, l0⟩ := hP.2.1.2.2.2.1 rfl
  have e0 := hP.2.1.2.2.2.2.1 (by omega)
  have ep : xPd 0 C = [] := by
    unfold xPd
    rw [l0]
    rfl
  have ec : xCd C c ++ ws = xCd (cIfE C (c ++ ws)) [] := by
    show fxc (xR C) ++ (xV C ++ (jc (xL C) (xO C) ++ (xE C ++ c))) ++ ws = fxc (xR C) ++ ((c ++ ws) ++ ([] ++ ([] ++ [])))
    rw [v0, l0, e0]
    simp [jc]
  have ecl : (xCd (cIfE C (c ++ ws)) []).length = (fxc (xR C)).length + (c ++ ws).length := by
    show (fxc (xR C) ++ ((c ++ ws) ++ ([] ++ ([] ++ [])))).length = _
    simp
  have ep' : xPd 1 (cIfE C (c ++ ws)) = [] := rfl
  refine x_behind hN ht hT hX0 hP hk (by omega) (fun g g1 g2 g3 => ?_)
  obtain ⟨z1, z2⟩ := pd_all (r := 1) (by omega) q5.2 ho (xPd 0 C)
  rw [show rkx 3 = 1 from rfl, z1, z2, ep, ppA, ppB, List.append_nil, ec] at g1
  have g0 : g t 0 = n32 (xR C).length := (g3 _ _ (by omega) (by omega) (by omega)).trans a6
  have g6 := g1.2.1
  rw [ecl] at g6
  unfold tbB J_X8_takeBehindUnit_96
  repeat (first | with_reducible refine ok_W ?_ | with_reducible refine ok_cO (by first | assumption | omega | (simp (disch := omega) only [n32_of, neg_n32_1, n32_nat, n32_lt, n32_le, n32_eq, n32_add, n32_sub, n32_mul, n32_m1, m1_n32, n32_addm1, m1_lt, lt_m1, m1_le, le_m1, m1_add1, ofNat_n32, u2_self, u2_n, mk_I, mk_T, ne_eq, not_true_eq_false, not_false_eq_true, ]; first | done | omega)) ?_ | with_reducible refine ok_ip (by first | assumption | omega | (simp (disch := omega) only [n32_of, neg_n32_1, n32_nat, n32_lt, n32_le, n32_eq, n32_add, n32_sub, n32_mul, n32_m1, m1_n32, n32_addm1, m1_lt, lt_m1, m1_le, le_m1, m1_add1, ofNat_n32, u2_self, u2_n, mk_I, mk_T, ne_eq, not_true_eq_false, not_false_eq_true, ]; first | done | omega)) ?_ | with_reducible refine ok_in (by first | assumption | omega | (simp (disch := omega) only [n32_of, neg_n32_1, n32_nat, n32_lt, n32_le, n32_eq, n32_add, n32_sub, n32_mul, n32_m1, m1_n32, n32_addm1, m1_lt, lt_m1, m1_le, le_m1, m1_add1, ofNat_n32, u2_self, u2_n, mk_I, mk_T, ne_eq, not_true_eq_false, not_false_eq_true, ]; first | done | omega)) ?_)
  rw [mk_T, hT, x_endValue g0 hl g6]
  refine ok_oB (ok_some ?_)
  repeat (first | with_reducible refine ok_W ?_ | with_reducible refine ok_cO (by first | assumption | omega | (simp (disch := omega) only [n32_of, neg_n32_1, n32_nat, n32_lt, n32_le, n32_eq, n32_add, n32_sub, n32_mul, n32_m1, m1_n32, n32_addm1, m1_lt, lt_m1, m1_le, le_m1, m1_add1, ofNat_n32, u2_self, u2_n, mk_I, mk_T, ne_eq, not_true_eq_false, not_false_eq_true, ]; first | done | omega)) ?_ | with_reducible refine ok_ip (by first | assumption | omega | (simp (disch := omega) only [n32_of, neg_n32_1, n32_nat, n32_lt, n32_le, n32_eq, n32_add, n32_sub, n32_mul, n32_m1, m1_n32, n32_addm1, m1_lt, lt_m1, m1_le, le_m1, m1_add1, ofNat_n32, u2_self, u2_n, mk_I, mk_T, ne_eq, not_true_eq_false, not_false_eq_true, ]; first | done | omega)) ?_ | with_reducible refine ok_in (by first | assumption | omega | (simp (disch := omega) only [n32_of, neg_n32_1, n32_nat, n32_lt, n32_le, n32_eq, n32_add, n32_sub, n32_mul, n32_m1, m1_n32, n32_addm1, m1_lt, lt_m1, m1_le, le_m1, m1_add1, ofNat_n32, u2_self, u2_n, mk_I, mk_T, ne_eq, not_true_eq_false, not_false_eq_true, ]; first | done | omega)) ?_)
  obtain ⟨b1, b2, b3⟩ := a8 (by omega)
  refine ok_some ⟨_, rfl, ?_, ?_⟩
  · intro a j q1 q2 q3
    simp (disch := omega) only [n32_of, neg_n32_1, n32_nat, n32_lt, n32_le, n32_eq, n32_add, n32_sub, n32_mul, n32_m1, m1_n32, n32_addm1, m1_lt, lt_m1, m1_le, le_m1, m1_add1, ofNat_n32, u2_self, u2_n, mk_I, mk_T, ]
    exact g3 a j (by omega) (by omega) (by omega)
  · refine ⟨⟨?_, ?_, fun _ => ?_, ?_⟩, ?_, ?_, XRs_cg _ _ _ a7 (fun a j q1 q2 q3 q4 => ?_), fun _ => ⟨?_, ?_, fun _ => ?_⟩⟩
    · simp (disch := omega) only [n32_of, neg_n32_1, n32_nat, n32_lt, n32_le, n32_eq, n32_add, n32_sub, n32_mul, n32_m1, m1_n32, n32_addm1, m1_lt, lt_m1, m1_le, le_m1, m1_add1, ofNat_n32, u2_self, u2_n, mk_I, mk_T, ]
    · simp (disch := omega) only [n32_of, neg_n32_1, n32_nat, n32_lt, n32_le, n32_eq, n32_add, n32_sub, n32_mul, n32_m1, m1_n32, n32_addm1, m1_lt, lt_m1, m1_le, le_m1, m1_add1, ofNat_n32, u2_self, u2_n, mk_I, mk_T, ]
      exact g2
    · simp (disch := omega) only [n32_of, neg_n32_1, n32_nat, n32_lt, n32_le, n32_eq, n32_add, n32_sub, n32_mul, n32_m1, m1_n32, n32_addm1, m1_lt, lt_m1, m1_le, le_m1, m1_add1, ofNat_n32, u2_self, u2_n, mk_I, mk_T, ]
    · simp (disch := omega) only [n32_of, neg_n32_1, n32_nat, n32_lt, n32_le, n32_eq, n32_add, n32_sub, n32_mul, n32_m1, m1_n32, n32_addm1, m1_lt, lt_m1, m1_le, le_m1, m1_add1, ofNat_n32, u2_self, u2_n, mk_I, mk_T, ]
      rw [g3 _ _ (by omega) (by omega) (by omega), a4, ho]
      rfl
    · exact xSt_cg g1 (by simp (disch := omega) only [n32_of, neg_n32_1, n32_nat, n32_lt, n32_le, n32_eq, n32_add, n32_sub, n32_mul, n32_m1, m1_n32, n32_addm1, m1_lt, lt_m1, m1_le, le_m1, m1_add1, ofNat_n32, u2_self, u2_n, mk_I, mk_T, ]) (fun j => by simp (disch := omega) only [n32_of, neg_n32_1, n32_nat, n32_lt, n32_le, n32_eq, n32_add, n32_sub, n32_mul, n32_m1, m1_n32, n32_addm1, m1_lt, lt_m1, m1_le, le_m1, m1_add1, ofNat_n32, u2_self, u2_n, mk_I, mk_T, ]) (by simp (disch := omega) only [n32_of, neg_n32_1, n32_nat, n32_lt, n32_le, n32_eq, n32_add, n32_sub, n32_mul, n32_m1, m1_n32, n32_addm1, m1_lt, lt_m1, m1_le, le_m1, m1_add1, ofNat_n32, u2_self, u2_n, mk_I, mk_T, ]) (fun j => by simp (disch := omega) only [n32_of, neg_n32_1, n32_nat, n32_lt, n32_le, n32_eq, n32_add, n32_sub, n32_mul, n32_m1, m1_n32, n32_addm1, m1_lt, lt_m1, m1_le, le_m1, m1_add1, ofNat_n32, u2_self, u2_n, mk_I, mk_T, ])
    · simp (disch := omega) only [n32_of, neg_n32_1, n32_nat, n32_lt, n32_le, n32_eq, n32_add, n32_sub, n32_mul, n32_m1, m1_n32, n32_addm1, m1_lt, lt_m1, m1_le, le_m1, m1_add1, ofNat_n32, u2_self, u2_n, mk_I, mk_T, ]
      exact g0
    · have q4 : j < 0 + (xR C).length := q4
      simp (disch := omega) only [n32_of, neg_n32_1, n32_nat, n32_lt, n32_le, n32_eq, n32_add, n32_sub, n32_mul, n32_m1, m1_n32, n32_addm1, m1_lt, lt_m1, m1_le, le_m1, m1_add1, ofNat_n32, u2_self, u2_n, mk_I, mk_T, ]
      exact g3 _ _ (by omega) (by omega) (by omega)
    · simp (disch := omega) only [n32_of, neg_n32_1, n32_nat, n32_lt, n32_le, n32_eq, n32_add, n32_sub, n32_mul, n32_m1, m1_n32, n32_addm1, m1_lt, lt_m1, m1_le, le_m1, m1_add1, ofNat_n32, u2_self, u2_n, mk_I, mk_T, ]
      exact (g3 _ _ (by omega) (by omega) (by omega)).trans b1
    · simp (disch := omega) only [n32_of, neg_n32_1, n32_nat, n32_lt, n32_le, n32_eq, n32_add, n32_sub, n32_mul, n32_m1, m1_n32, n32_addm1, m1_lt, lt_m1, m1_le, le_m1, m1_add1, ofNat_n32, u2_self, u2_n, mk_I, mk_T, ]
      exact (g3 _ _ (by omega) (by omega) (by omega)).trans b2
    · show _ = n32 ((fxc (xR C)).length + (c ++ ws).length)
      show u2 (u2 (u2 g (t + 3) (xR C).length (n32 ((fxc (xR C)).length + (c ++ ws).length))) 1 8 _) 1 7 _ (t + 3) (xR C).length = _
      simp (disch := omega) only [n32_of, neg_n32_1, n32_nat, n32_lt, n32_le, n32_eq, n32_add, n32_sub, n32_mul, n32_m1, m1_n32, n32_addm1, m1_lt, lt_m1, m1_le, le_m1, m1_add1, ofNat_n32, u2_self, u2_n, mk_I, mk_T, ]
theorem x_tk_rel {x : Nat} (hN : 100 ≤ N) (ht : t = 2 ∨ 15 ≤ t) (hT : aTxt σ 1 2 = t) (hX : XI t f k 2 1 C c ws) (hP : PI k 2 1 C c ws) (hk : k < 400) (ho : opn ws = 0) (h1 : 20 ≤ x) (h2 : x ≤ 23) : Ok (F_X8_take N (n32 x) (mk σ f)) (fun _ σ' => ∃ f', σ' = mk σ f' ∧ eqP t f f' ∧ XI t f' (k + 1) 1 2 (cRel C (c ++ ws) (x - 20)) [] []) := by
  have hX0 := hX
  obtain ⟨⟨a1, a2, a3, a4⟩, a5, a6, a7, a8⟩ := hX
  obtain ⟨q1, q2, q3, q4, q5⟩ := PI_x hP
  have e0 := hP.2.1.2.2.2.2.1 (by omega)
  have ec : xCd C c ++ ws = xCd (cRel C (c ++ ws) (x - 20)) [] := by
    show fxc (xR C) ++ (xV C ++ (jc (xL C) (xO C) ++ (xE C ++ c))) ++ ws = fxc (xR C) ++ (xV C ++ (jc (xL C) (xO C) ++ ((c ++ ws) ++ [])))
    rw [e0]
    simp
  have ep : [] ++ xPd 2 (cRel C (c ++ ws) (x - 20)) = x :: xPd 1 C := by
    show [20 + (x - 20)] ++ (lB (js (xL C) (xO C)).2 5 ++ lB (js (xL C) (xO C)).1 4) = x :: ([] ++ (lB (js (xL C) (xO C)).2 5 ++ lB (js (xL C) (xO C)).1 4))
    rw [show 20 + (x - 20) = x by omega]
    rfl
  refine x_behind hN ht hT hX0 hP hk (by omega) (fun g g1 g2 g3 => ?_)
  obtain ⟨z1, z2⟩ := pd_all (r := 3) (by omega) q5.2 ho (xPd 1 C)
  have hr : rkx x = 3 := by rcases (show x = 20 ∨ x = 21 ∨ x = 22 ∨ x = 23 by omega) with rfl | rfl | rfl | rfl <;> rfl
  rw [hr, z1, z2, xPd_3.1, xPd_3.2, List.append_nil, ec] at g1
  have hl : (xPd 1 C).length < 32 := by
    rw [List.length_append] at q3
    omega
  unfold tbB F_X8_takeOperator J_X8_takeBehindUnit_96 J_X8_takeOperator_40
  repeat (first | with_reducible refine ok_W ?_ | with_reducible refine ok_cO (by first | assumption | omega | (simp (disch := omega) only [n32_of, neg_n32_1, n32_nat, n32_lt, n32_le, n32_eq, n32_add, n32_sub, n32_mul, n32_m1, m1_n32, n32_addm1, m1_lt, lt_m1, m1_le, le_m1, m1_add1, ofNat_n32, u2_self, u2_n, mk_I, mk_T, ne_eq, not_true_eq_false, not_false_eq_true, ]; first | done | omega)) ?_ | with_reducible refine ok_ip (by first | assumption | omega | (simp (disch := omega) only [n32_of, neg_n32_1, n32_nat, n32_lt, n32_le, n32_eq, n32_add, n32_sub, n32_mul, n32_m1, m1_n32, n32_addm1, m1_lt, lt_m1, m1_le, le_m1, m1_add1, ofNat_n32, u2_self, u2_n, mk_I, mk_T, ne_eq, not_true_eq_false, not_false_eq_true, ]; first | done | omega)) ?_ | with_reducible refine ok_in (by first | assumption | omega | (simp (disch := omega) only [n32_of, neg_n32_1, n32_nat, n32_lt, n32_le, n32_eq, n32_add, n32_sub, n32_mul, n32_m1, m1_n32, n32_addm1, m1_lt, lt_m1, m1_le, le_m1, m1_add1, ofNat_n32, u2_self, u2_n, mk_I, mk_T, ne_eq, not_true_eq_false, not_false_eq_true, ]; first | done | omega)) ?_)
  rw [x_pend g1.1.1 hl]
  refine ok_oB (ok_oB (ok_some ?_))
  repeat (first | with_reducible refine ok_W ?_ | with_reducible refine ok_cO (by first | assumption | omega | (simp (disch := omega) only [n32_of, neg_n32_1, n32_nat, n32_lt, n32_le, n32_eq, n32_add, n32_sub, n32_mul, n32_m1, m1_n32, n32_addm1, m1_lt, lt_m1, m1_le, le_m1, m1_add1, ofNat_n32, u2_self, u2_n, mk_I, mk_T, ne_eq, not_true_eq_false, not_false_eq_true, ]; first | done | omega)) ?_ | with_reducible refine ok_ip (by first | assumption | omega | (simp (disch := omega) only [n32_of, neg_n32_1, n32_nat, n32_lt, n32_le, n32_eq, n32_add, n32_sub, n32_mul, n32_m1, m1_n32, n32_addm1, m1_lt, lt_m1, m1_le, le_m1, m1_add1, ofNat_n32, u2_self, u2_n, mk_I, mk_T, ne_eq, not_true_eq_false, not_false_eq_true, ]; first | done | omega)) ?_ | with_reducible refine ok_in (by first | assumption | omega | (simp (disch := omega) only [n32_of, neg_n32_1, n32_nat, n32_lt, n32_le, n32_eq, n32_add, n32_sub, n32_mul, n32_m1, m1_n32, n32_addm1, m1_lt, lt_m1, m1_le, le_m1, m1_add1, ofNat_n32, u2_self, u2_n, mk_I, mk_T, ne_eq, not_true_eq_false, not_false_eq_true, ]; first | done | omega)) ?_)
  rw [s_isRelation (by omega)]
  refine ok_oB (ok_some ?_)
  refine ok_in (yz ⟨h1, h2⟩) ?_
  repeat (first | with_reducible refine ok_W ?_ | with_reducible refine ok_cO (by first | assumption | omega | (simp (disch := omega) only [n32_of, neg_n32_1, n32_nat, n32_lt, n32_le, n32_eq, n32_add, n32_sub, n32_mul, n32_m1, m1_n32, n32_addm1, m1_lt, lt_m1, m1_le, le_m1, m1_add1, ofNat_n32, u2_self, u2_n, mk_I, mk_T, ne_eq, not_true_eq_false, not_false_eq_true, ]; first | done | omega)) ?_ | with_reducible refine ok_ip (by first | assumption | omega | (simp (disch := omega) only [n32_of, neg_n32_1, n32_nat, n32_lt, n32_le, n32_eq, n32_add, n32_sub, n32_mul, n32_m1, m1_n32, n32_addm1, m1_lt, lt_m1, m1_le, le_m1, m1_add1, ofNat_n32, u2_self, u2_n, mk_I, mk_T, ne_eq, not_true_eq_false, not_false_eq_true, ]; first | done | omega)) ?_ | with_reducible refine ok_in (by first | assumption | omega | (simp (disch := omega) only [n32_of, neg_n32_1, n32_nat, n32_lt, n32_le, n32_eq, n32_add, n32_sub, n32_mul, n32_m1, m1_n32, n32_addm1, m1_lt, lt_m1, m1_le, le_m1, m1_add1, ofNat_n32, u2_self, u2_n, mk_I, mk_T, ne_eq, not_true_eq_false, not_false_eq_true, ]; first | done | omega)) ?_)
  obtain ⟨b1, b2, b3⟩ := a8 (by omega)
  refine ok_some (ok_some ⟨_, rfl, ?_, ?_⟩)
  · intro a j q1 q2 q3
    simp (disch := omega) only [n32_of, neg_n32_1, n32_nat, n32_lt, n32_le, n32_eq, n32_add, n32_sub, n32_mul, n32_m1, m1_n32, n32_addm1, m1_lt, lt_m1, m1_le, le_m1, m1_add1, ofNat_n32, u2_self, u2_n, mk_I, mk_T, ]
    exact g3 a j (by omega) (by omega) (by omega)
  · refine ⟨⟨?_, ?_, fun _ => ?_, ?_⟩, ?_, ?_, XRs_cg _ _ _ a7 (fun a j q1 q2 q3 q4 => ?_), fun _ => ⟨?_, ?_, fun _ => ?_⟩⟩
    · simp (disch := omega) only [n32_of, neg_n32_1, n32_nat, n32_lt, n32_le, n32_eq, n32_add, n32_sub, n32_mul, n32_m1, m1_n32, n32_addm1, m1_lt, lt_m1, m1_le, le_m1, m1_add1, ofNat_n32, u2_self, u2_n, mk_I, mk_T, ]
    · simp (disch := omega) only [n32_of, neg_n32_1, n32_nat, n32_lt, n32_le, n32_eq, n32_add, n32_sub, n32_mul, n32_m1, m1_n32, n32_addm1, m1_lt, lt_m1, m1_le, le_m1, m1_add1, ofNat_n32, u2_self, u2_n, mk_I, mk_T, ]
      exact g2
    · simp (disch := omega) only [n32_of, neg_n32_1, n32_nat, n32_lt, n32_le, n32_eq, n32_add, n32_sub, n32_mul, n32_m1, m1_n32, n32_addm1, m1_lt, lt_m1, m1_le, le_m1, m1_add1, ofNat_n32, u2_self, u2_n, mk_I, mk_T, ]
    · simp (disch := omega) only [n32_of, neg_n32_1, n32_nat, n32_lt, n32_le, n32_eq, n32_add, n32_sub, n32_mul, n32_m1, m1_n32, n32_addm1, m1_lt, lt_m1, m1_le, le_m1, m1_add1, ofNat_n32, u2_self, u2_n, mk_I, mk_T, ]
      rw [g3 _ _ (by omega) (by omega) (by omega), a4, ho]
      rfl
    · rw [ep]
      exact xSt_cg (xSt_pend (x := x) ht g1) (by simp (disch := omega) only [n32_of, neg_n32_1, n32_nat, n32_lt, n32_le, n32_eq, n32_add, n32_sub, n32_mul, n32_m1, m1_n32, n32_addm1, m1_lt, lt_m1, m1_le, le_m1, m1_add1, ofNat_n32, u2_self, u2_n, mk_I, mk_T, ]) (fun j => by simp (disch := omega) only [n32_of, neg_n32_1, n32_nat, n32_lt, n32_le, n32_eq, n32_add, n32_sub, n32_mul, n32_m1, m1_n32, n32_addm1, m1_lt, lt_m1, m1_le, le_m1, m1_add1, ofNat_n32, u2_self, u2_n, mk_I, mk_T, ]) (by simp (disch := omega) only [n32_of, neg_n32_1, n32_nat, n32_lt, n32_le, n32_eq, n32_add, n32_sub, n32_mul, n32_m1, m1_n32, n32_addm1, m1_lt, lt_m1, m1_le, le_m1, m1_add1, ofNat_n32, u2_self, u2_n, mk_I, mk_T, ]) (fun j => by simp (disch := omega) only [n32_of, neg_n32_1, n32_nat, n32_lt, n32_le, n32_eq, n32_add, n32_sub, n32_mul, n32_m1, m1_n32, n32_addm1, m1_lt, lt_m1, m1_le, le_m1, m1_add1, ofNat_n32, u2_self, u2_n, mk_I, mk_T, ])
    · simp (disch := omega) only [n32_of, neg_n32_1, n32_nat, n32_lt, n32_le, n32_eq, n32_add, n32_sub, n32_mul, n32_m1, m1_n32, n32_addm1, m1_lt, lt_m1, m1_le, le_m1, m1_add1, ofNat_n32, u2_self, u2_n, mk_I, mk_T, ]
      exact (g3 _ _ (by omega) (by omega) (by omega)).trans a6
    · simp (disch := omega) only [n32_of, neg_n32_1, n32_nat, n32_lt, n32_le, n32_eq, n32_add, n32_sub, n32_mul, n32_m1, m1_n32, n32_addm1, m1_lt, lt_m1, m1_le, le_m1, m1_add1, ofNat_n32, u2_self, u2_n, mk_I, mk_T, ]
      exact g3 _ _ (by omega) (by omega) (by omega)
    · simp (disch := omega) only [n32_of, neg_n32_1, n32_nat, n32_lt, n32_le, n32_eq, n32_add, n32_sub, n32_mul, n32_m1, m1_n32, n32_addm1, m1_lt, lt_m1, m1_le, le_m1, m1_add1, ofNat_n32, u2_self, u2_n, mk_I, mk_T, ]
      exact (g3 _ _ (by omega) (by omega) (by omega)).trans b1
    · simp (disch := omega) only [n32_of, neg_n32_1, n32_nat, n32_lt, n32_le, n32_eq, n32_add, n32_sub, n32_mul, n32_m1, m1_n32, n32_addm1, m1_lt, lt_m1, m1_le, le_m1, m1_add1, ofNat_n32, u2_self, u2_n, mk_I, mk_T, ]
      exact (g3 _ _ (by omega) (by omega) (by omega)).trans b2
    · simp (disch := omega) only [n32_of, neg_n32_1, n32_nat, n32_lt, n32_le, n32_eq, n32_add, n32_sub, n32_mul, n32_m1, m1_n32, n32_addm1, m1_lt, lt_m1, m1_le, le_m1, m1_add1, ofNat_n32, u2_self, u2_n, mk_I, mk_T, ]
      exact (g3 _ _ (by omega) (by omega) (by omega)).trans (b3 (by omega))
theorem x_tk_con {x : Nat} (hN : 100 ≤ N) (ht : t = 2 ∨ 15 ≤ t) (hT : aTxt σ 1 2 = t) (hX : XI t f k 2 2 C c ws) (hP : PI k 2 2 C c ws) (hk : k < 400) (ho : opn ws = 0) (h1 : x = 4 ∨ x = 5) : Ok (F_X8_take N (n32 x) (mk σ f)) (fun _ σ' => ∃ f', σ' = mk σ f' ∧ eqP t f f' ∧ XI t f' (k + 1) 1 1 (cCon C (c ++ ws) (decide (x = 4))) [] []) := by
  have hX0 := hX
  obtain ⟨⟨a1, a2, a3, a4⟩, a5, a6, a7, a8⟩ := hX
  obtain ⟨q1, q2, q3, q4, q5⟩ := PI_x hP
  have h4 := (hP.2.1.2.2.2.2.2.2.2 rfl).2
  obtain ⟨b1, b2, b3⟩ := a8 (by omega)
  have fin : ∀ g, (∃ P', xSt t g P' (xCd (cCon C (c ++ ws) (decide (x = 4))) []) ∧ x :: P' = xPd 1 (cCon C (c ++ ws) (decide (x = 4))) ∧ P'.length < 32) → g 1 6 = n32 (k + 1) → (∀ a j, (a ≠ 1 ∨ (j ≠ 11 ∧ j ≠ 6)) → (a ≠ t ∨ j ≠ 6) → a ≠ t + 5 → g a j = f a j) → Ok (tbB N (n32 x) (mk σ g)) (fun _ σ' => ∃ f', σ' = mk σ f' ∧ eqP t f f' ∧ XI t f' (k + 1) 1 1 (cCon C (c ++ ws) (decide (x = 4))) [] []) := by
    intro g ⟨P', g1, ep, hl⟩ g2 g3
    unfold tbB F_X8_takeOperator J_X8_takeBehindUnit_96 J_X8_takeOperator_35 J_X8_takeOperator_40
    repeat (first | with_reducible refine ok_W ?_ | with_reducible refine ok_cO (by first | assumption | omega | (simp (disch := omega) only [n32_of, neg_n32_1, n32_nat, n32_lt, n32_le, n32_eq, n32_add, n32_sub, n32_mul, n32_m1, m1_n32, n32_addm1, m1_lt, lt_m1, m1_le, le_m1, m1_add1, ofNat_n32, u2_self, u2_n, mk_I, mk_T, ne_eq, not_true_eq_false, not_false_eq_true, ]; first | done | omega)) ?_ | with_reducible refine ok_ip (by first | assumption | omega | (simp (disch := omega) only [n32_of, neg_n32_1, n32_nat, n32_lt, n32_le, n32_eq, n32_add, n32_sub, n32_mul, n32_m1, m1_n32, n32_addm1, m1_lt, lt_m1, m1_le, le_m1, m1_add1, ofNat_n32, u2_self, u2_n, mk_I, mk_T, ne_eq, not_true_eq_false, not_false_eq_true, ]; first | done | omega)) ?_ | with_reducible refine ok_in (by first | assumption | omega | (simp (disch := omega) only [n32_of, neg_n32_1, n32_nat, n32_lt, n32_le, n32_eq, n32_add, n32_sub, n32_mul, n32_m1, m1_n32, n32_addm1, m1_lt, lt_m1, m1_le, le_m1, m1_add1, ofNat_n32, u2_self, u2_n, mk_I, mk_T, ne_eq, not_true_eq_false, not_false_eq_true, ]; first | done | omega)) ?_)
    rw [x_pend g1.1.1 hl]
    refine ok_oB (ok_oB (ok_some ?_))
    repeat (first | with_reducible refine ok_W ?_ | with_reducible refine ok_cO (by first | assumption | omega | (simp (disch := omega) only [n32_of, neg_n32_1, n32_nat, n32_lt, n32_le, n32_eq, n32_add, n32_sub, n32_mul, n32_m1, m1_n32, n32_addm1, m1_lt, lt_m1, m1_le, le_m1, m1_add1, ofNat_n32, u2_self, u2_n, mk_I, mk_T, ne_eq, not_true_eq_false, not_false_eq_true, ]; first | done | omega)) ?_ | with_reducible refine ok_ip (by first | assumption | omega | (simp (disch := omega) only [n32_of, neg_n32_1, n32_nat, n32_lt, n32_le, n32_eq, n32_add, n32_sub, n32_mul, n32_m1, m1_n32, n32_addm1, m1_lt, lt_m1, m1_le, le_m1, m1_add1, ofNat_n32, u2_self, u2_n, mk_I, mk_T, ne_eq, not_true_eq_false, not_false_eq_true, ]; first | done | omega)) ?_ | with_reducible refine ok_in (by first | assumption | omega | (simp (disch := omega) only [n32_of, neg_n32_1, n32_nat, n32_lt, n32_le, n32_eq, n32_add, n32_sub, n32_mul, n32_m1, m1_n32, n32_addm1, m1_lt, lt_m1, m1_le, le_m1, m1_add1, ofNat_n32, u2_self, u2_n, mk_I, mk_T, ne_eq, not_true_eq_false, not_false_eq_true, ]; first | done | omega)) ?_)
    rw [s_isRelation (by omega)]
    refine ok_oB (ok_some ?_)
    refine ok_ip (nz (by omega)) ?_
    have last : Ok (lt (aWI (mk σ (u2 (u2 (u2 g 10 P'.length (n32 x)) 1 11 (n32 (P'.length + 1))) 1 7 1)) 1 8 1) fun σ1 => some ((), σ1)) (fun _ σ' => Ok (some ((), σ')) (fun _ σ' => ∃ f', σ' = mk σ f' ∧ eqP t f f' ∧ XI t f' (k + 1) 1 1 (cCon C (c ++ ws) (decide (x = 4))) [] [])) := by
      repeat (first | with_reducible refine ok_W ?_ | with_reducible refine ok_cO (by first | assumption | omega | (simp (disch := omega) only [n32_of, neg_n32_1, n32_nat, n32_lt, n32_le, n32_eq, n32_add, n32_sub, n32_mul, n32_m1, m1_n32, n32_addm1, m1_lt, lt_m1, m1_le, le_m1, m1_add1, ofNat_n32, u2_self, u2_n, mk_I, mk_T, ne_eq, not_true_eq_false, not_false_eq_true, ]; first | done | omega)) ?_ | with_reducible refine ok_ip (by first | assumption | omega | (simp (disch := omega) only [n32_of, neg_n32_1, n32_nat, n32_lt, n32_le, n32_eq, n32_add, n32_sub, n32_mul, n32_m1, m1_n32, n32_addm1, m1_lt, lt_m1, m1_le, le_m1, m1_add1, ofNat_n32, u2_self, u2_n, mk_I, mk_T, ne_eq, not_true_eq_false, not_false_eq_true, ]; first | done | omega)) ?_ | with_reducible refine ok_in (by first | assumption | omega | (simp (disch := omega) only [n32_of, neg_n32_1, n32_nat, n32_lt, n32_le, n32_eq, n32_add, n32_sub, n32_mul, n32_m1, m1_n32, n32_addm1, m1_lt, lt_m1, m1_le, le_m1, m1_add1, ofNat_n32, u2_self, u2_n, mk_I, mk_T, ne_eq, not_true_eq_false, not_false_eq_true, ]; first | done | omega)) ?_)
      refine ok_some (ok_some ⟨_, rfl, ?_, ?_⟩)
      · intro a j q1 q2 q3
        simp (disch := omega) only [n32_of, neg_n32_1, n32_nat, n32_lt, n32_le, n32_eq, n32_add, n32_sub, n32_mul, n32_m1, m1_n32, n32_addm1, m1_lt, lt_m1, m1_le, le_m1, m1_add1, ofNat_n32, u2_self, u2_n, mk_I, mk_T, ]
        exact g3 a j (by omega) (by omega) (by omega)
      · refine ⟨⟨?_, ?_, fun _ => ?_, ?_⟩, ?_, ?_, XRs_cg _ _ _ a7 (fun a j q1 q2 q3 q4 => ?_), fun _ => ⟨?_, ?_, fun _ => ?_⟩⟩
        · simp (disch := omega) only [n32_of, neg_n32_1, n32_nat, n32_lt, n32_le, n32_eq, n32_add, n32_sub, n32_mul, n32_m1, m1_n32, n32_addm1, m1_lt, lt_m1, m1_le, le_m1, m1_add1, ofNat_n32, u2_self, u2_n, mk_I, mk_T, ]
        · simp (disch := omega) only [n32_of, neg_n32_1, n32_nat, n32_lt, n32_le, n32_eq, n32_add, n32_sub, n32_mul, n32_m1, m1_n32, n32_addm1, m1_lt, lt_m1, m1_le, le_m1, m1_add1, ofNat_n32, u2_self, u2_n, mk_I, mk_T, ]
          exact g2
        · simp (disch := omega) only [n32_of, neg_n32_1, n32_nat, n32_lt, n32_le, n32_eq, n32_add, n32_sub, n32_mul, n32_m1, m1_n32, n32_addm1, m1_lt, lt_m1, m1_le, le_m1, m1_add1, ofNat_n32, u2_self, u2_n, mk_I, mk_T, ]
        · simp (disch := omega) only [n32_of, neg_n32_1, n32_nat, n32_lt, n32_le, n32_eq, n32_add, n32_sub, n32_mul, n32_m1, m1_n32, n32_addm1, m1_lt, lt_m1, m1_le, le_m1, m1_add1, ofNat_n32, u2_self, u2_n, mk_I, mk_T, ]
          rw [g3 _ _ (by omega) (by omega) (by omega), a4, ho]
          rfl
        · rw [List.nil_append, ← ep]
          exact xSt_cg (xSt_pend (x := x) ht g1) (by simp (disch := omega) only [n32_of, neg_n32_1, n32_nat, n32_lt, n32_le, n32_eq, n32_add, n32_sub, n32_mul, n32_m1, m1_n32, n32_addm1, m1_lt, lt_m1, m1_le, le_m1, m1_add1, ofNat_n32, u2_self, u2_n, mk_I, mk_T, ]) (fun j => by simp (disch := omega) only [n32_of, neg_n32_1, n32_nat, n32_lt, n32_le, n32_eq, n32_add, n32_sub, n32_mul, n32_m1, m1_n32, n32_addm1, m1_lt, lt_m1, m1_le, le_m1, m1_add1, ofNat_n32, u2_self, u2_n, mk_I, mk_T, ]) (by simp (disch := omega) only [n32_of, neg_n32_1, n32_nat, n32_lt, n32_le, n32_eq, n32_add, n32_sub, n32_mul, n32_m1, m1_n32, n32_addm1, m1_lt, lt_m1, m1_le, le_m1, m1_add1, ofNat_n32, u2_self, u2_n, mk_I, mk_T, ]) (fun j => by simp (disch := omega) only [n32_of, neg_n32_1, n32_nat, n32_lt, n32_le, n32_eq, n32_add, n32_sub, n32_mul, n32_m1, m1_n32, n32_addm1, m1_lt, lt_m1, m1_le, le_m1, m1_add1, ofNat_n32, u2_self, u2_n, mk_I, mk_T, ])
        · simp (disch := omega) only [n32_of, neg_n32_1, n32_nat, n32_lt, n32_le, n32_eq, n32_add, n32_sub, n32_mul, n32_m1, m1_n32, n32_addm1, m1_lt, lt_m1, m1_le, le_m1, m1_add1, ofNat_n32, u2_self, u2_n, mk_I, mk_T, ]
          exact (g3 _ _ (by omega) (by omega) (by omega)).trans a6
        · simp (disch := omega) only [n32_of, neg_n32_1, n32_nat, n32_lt, n32_le, n32_eq, n32_add, n32_sub, n32_mul, n32_m1, m1_n32, n32_addm1, m1_lt, lt_m1, m1_le, le_m1, m1_add1, ofNat_n32, u2_self, u2_n, mk_I, mk_T, ]
          exact g3 _ _ (by omega) (by omega) (by omega)
        · simp (disch := omega) only [n32_of, neg_n32_1, n32_nat, n32_lt, n32_le, n32_eq, n32_add, n32_sub, n32_mul, n32_m1, m1_n32, n32_addm1, m1_lt, lt_m1, m1_le, le_m1, m1_add1, ofNat_n32, u2_self, u2_n, mk_I, mk_T, ]
          exact (g3 _ _ (by omega) (by omega) (by omega)).trans b1
        · simp (disch := omega) only [n32_of, neg_n32_1, n32_nat, n32_lt, n32_le, n32_eq, n32_add, n32_sub, n32_mul, n32_m1, m1_n32, n32_addm1, m1_lt, lt_m1, m1_le, le_m1, m1_add1, ofNat_n32, u2_self, u2_n, mk_I, mk_T, ]
          exact (g3 _ _ (by omega) (by omega) (by omega)).trans b2
        · simp (disch := omega) only [n32_of, neg_n32_1, n32_nat, n32_lt, n32_le, n32_eq, n32_add, n32_sub, n32_mul, n32_m1, m1_n32, n32_addm1, m1_lt, lt_m1, m1_le, le_m1, m1_add1, ofNat_n32, u2_self, u2_n, mk_I, mk_T, ]
          exact (g3 _ _ (by omega) (by omega) (by omega)).trans (b3 (by omega))
    rcases h1 with rfl | rfl
    · with_reducible refine ok_in (by first | assumption | omega | (simp (disch := omega) only [n32_of, neg_n32_1, n32_nat, n32_lt, n32_le, n32_eq, n32_add, n32_sub, n32_mul, n32_m1, m1_n32, n32_addm1, m1_lt, lt_m1, m1_le, le_m1, m1_add1, ofNat_n32, u2_self, u2_n, mk_I, mk_T, ne_eq, not_true_eq_false, not_false_eq_true, ]; first | done | omega)) ?_
      with_reducible refine ok_in (by first | assumption | omega | (simp (disch := omega) only [n32_of, neg_n32_1, n32_nat, n32_lt, n32_le, n32_eq, n32_add, n32_sub, n32_mul, n32_m1, m1_n32, n32_addm1, m1_lt, lt_m1, m1_le, le_m1, m1_add1, ofNat_n32, u2_self, u2_n, mk_I, mk_T, ne_eq, not_true_eq_false, not_false_eq_true, ]; first | done | omega)) ?_
      exact last
    · with_reducible refine ok_ip (by first | assumption | omega | (simp (disch := omega) only [n32_of, neg_n32_1, n32_nat, n32_lt, n32_le, n32_eq, n32_add, n32_sub, n32_mul, n32_m1, m1_n32, n32_addm1, m1_lt, lt_m1, m1_le, le_m1, m1_add1, ofNat_n32, u2_self, u2_n, mk_I, mk_T, ne_eq, not_true_eq_false, not_false_eq_true, ]; first | done | omega)) ?_
      exact last
  refine x_behind hN ht hT hX0 hP hk (by omega) (fun g g1 g2 g3 => fin g ?_ g2 g3)
  have hjs := js_fin (xL C) (xO C, xS C, xE C, c ++ ws)
  have hjc := jc_fin (xL C) (xO C, xS C, xE C, c ++ ws)
  rcases h1 with rfl | rfl
  · obtain ⟨z1, z2⟩ := pd_all (r := 1) (by omega) q5.2 ho (xPd 2 C)
    obtain ⟨y1, y2⟩ := xPd_1 (pt := 2) (C := C) (fun _ => h4)
    rw [show rkx 4 = 1 from rfl, z1, z2, y1, y2] at g1
    refine ⟨[], ?_, ?_, by show 0 < 32; omega⟩
    · have e : xCd C c ++ (ws ++ xPd 2 C) = xCd (cCon C (c ++ ws) (decide (4 = 4))) [] := by
        show fxc (xR C) ++ (xV C ++ (jc (xL C) (xO C) ++ (xE C ++ c))) ++ (ws ++ ([20 + xS C] ++ (lB (js (xL C) (xO C)).2 5 ++ lB (js (xL C) (xO C)).1 4))) = fxc (xR C) ++ (xV C ++ (jc (finR C (c ++ ws)) true ++ ([] ++ [])))
        unfold finR
        rw [hjc true]
        simp
      rw [e] at g1
      exact g1
    · show [4] = [] ++ (lB (js (finR C (c ++ ws)) true).2 5 ++ lB (js (finR C (c ++ ws)) true).1 4)
      unfold finR
      rw [hjs true]
      rfl
  · obtain ⟨z1, z2⟩ := pd_all (r := 2) (by omega) q5.2 ho (xPd 2 C)
    obtain ⟨y1, y2⟩ := xPd_2 (C := C) h4
    rw [show rkx 5 = 2 from rfl, z1, z2, y1, y2] at g1
    refine ⟨lB (js (xL C) (xO C)).1 4, ?_, ?_, ?_⟩
    · have e : xCd C c ++ (ws ++ (20 + xS C) :: lB (js (xL C) (xO C)).2 5) = xCd (cCon C (c ++ ws) (decide (5 = 4))) [] := by
        show fxc (xR C) ++ (xV C ++ (jc (xL C) (xO C) ++ (xE C ++ c))) ++ (ws ++ (20 + xS C) :: lB (js (xL C) (xO C)).2 5) = fxc (xR C) ++ (xV C ++ (jc (finR C (c ++ ws)) false ++ ([] ++ [])))
        unfold finR
        rw [hjc false]
        simp
      rw [e] at g1
      exact g1
    · show 5 :: lB (js (xL C) (xO C)).1 4 = [] ++ (lB (js (finR C (c ++ ws)) false).2 5 ++ lB (js (finR C (c ++ ws)) false).1 4)
      unfold finR
      rw [hjs false]
      rfl
    · rw [lB_len]
      split <;> omega
end XT2
