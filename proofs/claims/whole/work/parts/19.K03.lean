/-! ===== the program's parser: joined relations, what waits, code ===== -/
def cj : List Rl → Bool → Bool → Bool → List Nat
  | [], O, A, o => lB A 5 ++ (if o then lB O 4 else [])
  | r :: rl, O, A, o => if r.1 then lB A 5 ++ (lB O 4 ++ (r.2.2.1 ++ (r.2.2.2 ++ ((20 + r.2.1) :: cj rl true false o)))) else lB A 5 ++ (r.2.2.1 ++ (r.2.2.2 ++ ((20 + r.2.1) :: cj rl O true o)))
def pj : List Rl → Bool → Bool → Bool → Bool × Bool
  | [], O, _, o => if o then (true, false) else (O, true)
  | r :: rl, O, _, o => if r.1 then pj rl true false o else pj rl O true o
def jc : List Rl → Bool → List Nat
  | [], _ => []
  | r :: rl, o => r.2.2.1 ++ (r.2.2.2 ++ ((20 + r.2.1) :: cj rl false false o))
def js : List Rl → Bool → Bool × Bool
  | [], _ => (false, false)
  | _ :: rl, o => pj rl false false o
theorem cc_fin (q : Rl) : ∀ (rl : List Rl) (O A : Bool), cc (rl ++ [q]) O A = cj rl O A q.1 ++ (q.2.2.1 ++ (q.2.2.2 ++ ((20 + q.2.1) :: (lB (pj rl O A q.1).2 5 ++ lB (pj rl O A q.1).1 4)))) := by
  intro rl
  induction rl with
  | nil =>
    intro O A
    show cc [q] O A = _
    rw [cc, cj, pj]
    cases h : q.1 <;> simp [cc, lB]
  | cons r rl ih =>
    intro O A
    rw [List.cons_append, cc, cj, pj, ih, ih]
    cases h : r.1 <;> simp
theorem cj_fin (q : Rl) (o : Bool) : ∀ (rl : List Rl) (O A : Bool), cj (rl ++ [q]) O A o = cj rl O A q.1 ++ (q.2.2.1 ++ (q.2.2.2 ++ ((20 + q.2.1) :: (lB (pj rl O A q.1).2 5 ++ (if o then lB (pj rl O A q.1).1 4 else []))))) := by
  intro rl
  induction rl with
  | nil =>
    intro O A
    show cj [q] O A o = _
    rw [cj, cj, pj]
    cases h : q.1 <;> simp [cj]
  | cons r rl ih =>
    intro O A
    rw [List.cons_append, cj, cj, pj, ih, ih]
    cases h : r.1 <;> simp
theorem pj_fin (q : Rl) (o : Bool) : ∀ (rl : List Rl) (O A : Bool), pj (rl ++ [q]) O A o = if o then (true, false) else ((pj rl O A q.1).1, true) := by
  intro rl
  induction rl with
  | nil =>
    intro O A
    show pj [q] O A o = _
    rw [pj, pj]
    cases h : q.1 <;> simp [pj]
  | cons r rl ih =>
    intro O A
    rw [List.cons_append, pj, pj, ih, ih]
    cases h : r.1 <;> simp
theorem condC_fin (rl : List Rl) (q : Rl) : condC (rl ++ [q]) = jc rl q.1 ++ (q.2.2.1 ++ (q.2.2.2 ++ ((20 + q.2.1) :: (lB (js rl q.1).2 5 ++ lB (js rl q.1).1 4)))) := by
  cases rl with
  | nil => rfl
  | cons r rl =>
    rw [List.cons_append, condC, cc_fin, jc, js]
    simp
theorem jc_fin (rl : List Rl) (q : Rl) (o : Bool) : jc (rl ++ [q]) o = jc rl q.1 ++ (q.2.2.1 ++ (q.2.2.2 ++ ((20 + q.2.1) :: (lB (js rl q.1).2 5 ++ (if o then lB (js rl q.1).1 4 else []))))) := by
  cases rl with
  | nil =>
    show q.2.2.1 ++ (q.2.2.2 ++ ((20 + q.2.1) :: cj [] false false o)) = _
    cases o <;> rfl
  | cons r rl =>
    rw [List.cons_append, jc, cj_fin, jc, js]
    simp
theorem js_fin (rl : List Rl) (q : Rl) (o : Bool) : js (rl ++ [q]) o = if o then (true, false) else ((js rl q.1).1, true) := by
  cases rl with
  | nil =>
    show pj [] false false o = _
    cases o <;> rfl
  | cons r rl =>
    rw [List.cons_append, js, pj_fin, js]
theorem lB_len (b : Bool) (t : Nat) : (lB b t).length = if b then 1 else 0 := by cases b <;> rfl
theorem cj_len (o : Bool) : ∀ (rl : List Rl) (O A : Bool), (cj rl O A o).length + (lB (pj rl O A o).2 5).length + (lB (pj rl O A o).1 4).length = (lB A 5).length + (lB O 4).length + 1 + wl2 rl := by
  intro rl
  induction rl with
  | nil =>
    intro O A
    rw [cj, pj, wl2]
    cases o <;> cases O <;> cases A <;> rfl
  | cons r rl ih =>
    intro O A
    rw [cj, pj, wl2]
    cases h : r.1
    · have := ih O true
      simp [lB_len] at this ⊢
      omega
    · have := ih true false
      simp [lB_len] at this ⊢
      omega
theorem jc_len (rl : List Rl) (o : Bool) : (jc rl o).length + (lB (js rl o).2 5).length + (lB (js rl o).1 4).length = wl2 rl := by
  cases rl with
  | nil => rfl
  | cons r rl =>
    have := cj_len o rl false false
    rw [jc, js, wl2]
    simp [lB_len] at this ⊢
    omega
theorem cc_len : ∀ (rl : List Rl) (O A : Bool), (cc rl O A).length = (lB A 5).length + (lB O 4).length + wl2 rl := by
  intro rl
  induction rl with
  | nil => intro O A; rw [cc, List.length_append, wl2]; omega
  | cons r rl ih =>
    intro O A
    rw [cc, wl2]
    cases h : r.1
    · simp [ih, lB_len]
      omega
    · simp [ih, lB_len]
      omega
theorem condC_len (rl : List Rl) : (condC rl).length ≤ wl2 rl := by
  cases rl with
  | nil => exact Nat.le_refl _
  | cons r rl =>
    rw [condC, wl2]
    simp only [List.length_append, List.length_cons, cc_len, lB_len]
    simp
    omega
def fxc : List Ru → List Nat
  | [] => []
  | u :: rs => u.2.1 ++ (condC u.2.2 ++ fxc rs)
theorem fxc_app : ∀ (a c : List Ru), fxc (a ++ c) = fxc a ++ fxc c := by
  intro a
  induction a with
  | nil => intro c; rfl
  | cons u a ih => intro c; rw [List.cons_append, fxc, fxc, ih]; simp
theorem fxc_len : ∀ rs, (fxc rs).length ≤ wtr rs := by
  intro rs
  induction rs with
  | nil => exact Nat.le_refl _
  | cons u rs ih =>
    have := condC_len u.2.2
    rw [fxc, wtr, List.length_append, List.length_append]
    omega
/-- the program's code so far; what waits behind the E's own -/
def xCd (C : CX) (c : List Nat) : List Nat := fxc (xR C) ++ (xV C ++ (jc (xL C) (xO C) ++ (xE C ++ c)))
def xPd (pt : Nat) (C : CX) : List Nat := (if pt = 2 then [20 + xS C] else []) ++ (lB (js (xL C) (xO C)).2 5 ++ lB (js (xL C) (xO C)).1 4)
theorem xTot {pt : Nat} {C : CX} {c ws : List Nat} : (xCd C c).length + (ws ++ xPd pt C).length ≤ tot pt C c ws := by
  have a := fxc_len (xR C)
  have b := jc_len (xL C) (xO C)
  unfold xCd xPd tot
  simp only [List.length_append]
  have d : (if pt = 2 then [20 + xS C] else []).length ≤ pt := by
    split
    · next h => subst h; show 1 ≤ 2; omega
    · exact Nat.zero_le _
  omega
theorem xPd_lt {pt : Nat} {C : CX} (h : pt = 2 → xS C < 4) : (∀ x ∈ xPd pt C, x < 24) ∧ (xPd pt C).length ≤ 3 ∧ ∀ x, (xPd pt C)[0]? = some x → rkx x < 4 := by
  unfold xPd
  generalize js (xL C) (xO C) = oa
  obtain ⟨O, A⟩ := oa
  by_cases hp : pt = 2
  · have h4 := h hp
    rw [if_pos hp]
    generalize xS C = s at h4
    rcases (show s = 0 ∨ s = 1 ∨ s = 2 ∨ s = 3 by omega) with rfl | rfl | rfl | rfl <;> cases O <;> cases A <;> simp [lB, rkx]
  · rw [if_neg hp]
    cases O <;> cases A <;> simp [lB, rkx]
theorem xPd_3 {C : CX} : ppA 3 (xPd 1 C) = [] ∧ ppB 3 (xPd 1 C) = xPd 1 C := by
  unfold xPd
  generalize js (xL C) (xO C) = oa
  obtain ⟨O, A⟩ := oa
  cases O <;> cases A <;> exact ⟨rfl, rfl⟩
theorem xPd_2 {C : CX} (h : xS C < 4) : ppA 2 (xPd 2 C) = (20 + xS C) :: lB (js (xL C) (xO C)).2 5 ∧ ppB 2 (xPd 2 C) = lB (js (xL C) (xO C)).1 4 := by
  unfold xPd
  generalize js (xL C) (xO C) = oa
  obtain ⟨O, A⟩ := oa
  generalize xS C = s at h
  rcases (show s = 0 ∨ s = 1 ∨ s = 2 ∨ s = 3 by omega) with rfl | rfl | rfl | rfl <;> cases O <;> cases A <;> exact ⟨rfl, rfl⟩
theorem xPd_1 {pt : Nat} {C : CX} (h : pt = 2 → xS C < 4) : ppA 1 (xPd pt C) = xPd pt C ∧ ppB 1 (xPd pt C) = [] := by
  unfold xPd
  generalize js (xL C) (xO C) = oa
  obtain ⟨O, A⟩ := oa
  by_cases hp : pt = 2
  · have h4 := h hp
    rw [if_pos hp]
    generalize xS C = s at h4
    rcases (show s = 0 ∨ s = 1 ∨ s = 2 ∨ s = 3 by omega) with rfl | rfl | rfl | rfl <;> cases O <;> cases A <;> exact ⟨rfl, rfl⟩
  · rw [if_neg hp]
    cases O <;> cases A <;> exact ⟨rfl, rfl⟩
-- what waits, in its row
def pst (f : pln) : List Nat → Prop
  | [] => True
  | x :: P => f 10 P.length = n32 x ∧ pst f P
theorem pst_cg {f f' : pln} : ∀ P : List Nat, pst f P → (∀ k, k < P.length → f' 10 k = f 10 k) → pst f' P := by
  intro P
  induction P with
  | nil => intro _ _; exact trivial
  | cons x P ih =>
    intro h e
    exact ⟨(e _ (by rw [List.length_cons]; omega)).trans h.1, ih h.2 (fun k hk => e k (by rw [List.length_cons]; omega))⟩
theorem seg_in {f f' : pln} {a p : Nat} {c : List Nat} (h : seg f a p c) (e : ∀ k, p ≤ k → k < p + c.length → f' a k = f a k) : seg f' a p c := fun j hj => (e _ (by omega) (by omega)).trans (h j hj)
theorem seg_one {f : pln} {a p : Nat} {c : List Nat} {x : Nat} (h : seg f a p c) (hx : f a (p + c.length) = n32 x) : seg f a p (c ++ [x]) := app_seg h (fun j hj => by
  have : j = 0 := by simp only [List.length_singleton] at hj; omega
  subst this
  exact hx)
section XP
variable {N t : Nat} {σ : aSt}
theorem s_isRelation {x : Nat} {τ : aSt} (hx : x < 20000) : F_X10_isRelation N (n32 x) τ = some (bI (20 ≤ x ∧ x ≤ 23), τ) := by
  unfold F_X10_isRelation J_X10_isRelation_16 J_X10_isRelation_17
  rw [cO_t nar_b0, cO_t nar_b1]
  by_cases h1 : x < 20
  · rw [if_pos (by first | assumption | omega | (simp (disch := omega) only [n32_of, neg_n32_1, n32_nat, n32_lt, n32_le, n32_eq, n32_add, n32_sub, n32_mul, n32_m1, m1_n32, n32_addm1, m1_lt, lt_m1, m1_le, le_m1, m1_add1, ofNat_n32, u2_self, u2_n, mk_I, mk_T, ne_eq, not_true_eq_false, not_false_eq_true, ]; first | done | omega)), bI_f (by omega)]
  · rw [if_neg (by first | assumption | omega | (simp (disch := omega) only [n32_of, neg_n32_1, n32_nat, n32_lt, n32_le, n32_eq, n32_add, n32_sub, n32_mul, n32_m1, m1_n32, n32_addm1, m1_lt, lt_m1, m1_le, le_m1, m1_add1, ofNat_n32, u2_self, u2_n, mk_I, mk_T, ne_eq, not_true_eq_false, not_false_eq_true, ]; first | done | omega))]
    by_cases h2 : 23 < x
    · rw [if_pos (by first | assumption | omega | (simp (disch := omega) only [n32_of, neg_n32_1, n32_nat, n32_lt, n32_le, n32_eq, n32_add, n32_sub, n32_mul, n32_m1, m1_n32, n32_addm1, m1_lt, lt_m1, m1_le, le_m1, m1_add1, ofNat_n32, u2_self, u2_n, mk_I, mk_T, ne_eq, not_true_eq_false, not_false_eq_true, ]; first | done | omega)), bI_f (by omega)]
    · rw [if_neg (by first | assumption | omega | (simp (disch := omega) only [n32_of, neg_n32_1, n32_nat, n32_lt, n32_le, n32_eq, n32_add, n32_sub, n32_mul, n32_m1, m1_n32, n32_addm1, m1_lt, lt_m1, m1_le, le_m1, m1_add1, ofNat_n32, u2_self, u2_n, mk_I, mk_T, ne_eq, not_true_eq_false, not_false_eq_true, ]; first | done | omega)), bI_t (by omega)]
theorem s_rank {x : Nat} {τ : aSt} (hx : x < 20000) : F_X8_rank N (n32 x) τ = some (n32 (rkx x), τ) := by
  unfold F_X8_rank J_X8_rank_106 J_X8_rank_98 J_X8_rank_100 rkx
  simp (disch := omega) only [n32_of, neg_n32_1, n32_nat, n32_lt, n32_le, n32_eq, n32_add, n32_sub, n32_mul, n32_m1, m1_n32, n32_addm1, m1_lt, lt_m1, m1_le, le_m1, m1_add1, ofNat_n32, u2_self, u2_n, mk_I, mk_T, ]
  repeat' split
  all_goals rfl
theorem x_addCode {f : pln} {l x : Nat} (h6 : f t 6 = n32 l) (hl : l < 400) : F_X10_addCode N t (n32 x) (mk σ f) = some ((), mk σ (u2 (u2 f (t + 5) l (n32 x)) t 6 (n32 (l + 1)))) := by
  unfold F_X10_addCode J_X10_addCode_30
  rw [if_neg (by first | assumption | omega | (simp (disch := omega) only [n32_of, neg_n32_1, n32_nat, n32_lt, n32_le, n32_eq, n32_add, n32_sub, n32_mul, n32_m1, m1_n32, n32_addm1, m1_lt, lt_m1, m1_le, le_m1, m1_add1, ofNat_n32, u2_self, u2_n, mk_I, mk_T, ne_eq, not_true_eq_false, not_false_eq_true, h6]; first | done | omega)), cO_t (by first | assumption | omega | (simp (disch := omega) only [n32_of, neg_n32_1, n32_nat, n32_lt, n32_le, n32_eq, n32_add, n32_sub, n32_mul, n32_m1, m1_n32, n32_addm1, m1_lt, lt_m1, m1_le, le_m1, m1_add1, ofNat_n32, u2_self, u2_n, mk_I, mk_T, ne_eq, not_true_eq_false, not_false_eq_true, h6]; first | done | omega))]
  rw [lt_d, mk_W, lt_d, mk_W]
  simp (disch := omega) only [n32_of, neg_n32_1, n32_nat, n32_lt, n32_le, n32_eq, n32_add, n32_sub, n32_mul, n32_m1, m1_n32, n32_addm1, m1_lt, lt_m1, m1_le, le_m1, m1_add1, ofNat_n32, u2_self, u2_n, mk_I, mk_T, h6]
theorem x_pend {f : pln} {l x : Nat} (h11 : f 1 11 = n32 l) (hl : l < 32) : F_X8_pend N (n32 x) (mk σ f) = some ((), mk σ (u2 (u2 f 10 l (n32 x)) 1 11 (n32 (l + 1)))) := by
  unfold F_X8_pend J_X8_pend_32
  rw [if_neg (by first | assumption | omega | (simp (disch := omega) only [n32_of, neg_n32_1, n32_nat, n32_lt, n32_le, n32_eq, n32_add, n32_sub, n32_mul, n32_m1, m1_n32, n32_addm1, m1_lt, lt_m1, m1_le, le_m1, m1_add1, ofNat_n32, u2_self, u2_n, mk_I, mk_T, ne_eq, not_true_eq_false, not_false_eq_true, h11]; first | done | omega)), cO_t (by first | assumption | omega | (simp (disch := omega) only [n32_of, neg_n32_1, n32_nat, n32_lt, n32_le, n32_eq, n32_add, n32_sub, n32_mul, n32_m1, m1_n32, n32_addm1, m1_lt, lt_m1, m1_le, le_m1, m1_add1, ofNat_n32, u2_self, u2_n, mk_I, mk_T, ne_eq, not_true_eq_false, not_false_eq_true, h11]; first | done | omega))]
  rw [lt_d, mk_W, lt_d, mk_W]
  simp (disch := omega) only [n32_of, neg_n32_1, n32_nat, n32_lt, n32_le, n32_eq, n32_add, n32_sub, n32_mul, n32_m1, m1_n32, n32_addm1, m1_lt, lt_m1, m1_le, le_m1, m1_add1, ofNat_n32, u2_self, u2_n, mk_I, mk_T, h11]
/-- the rows that the program's code and what waits lie in -/
def xSt (t : Nat) (f : pln) (P Cd : List Nat) : Prop := (f 1 11 = n32 P.length ∧ pst f P) ∧ f t 6 = n32 Cd.length ∧ seg f (t + 5) 0 Cd
theorem xSt_cg {f f' : pln} {P Cd : List Nat} (h : xSt t f P Cd) (e1 : f' 1 11 = f 1 11) (e2 : ∀ k, f' 10 k = f 10 k) (e3 : f' t 6 = f t 6) (e4 : ∀ k, f' (t + 5) k = f (t + 5) k) : xSt t f' P Cd := ⟨⟨e1.trans h.1.1, pst_cg _ h.1.2 (fun k _ => e2 k)⟩, e3.trans h.2.1, seg_cg h.2.2 e4⟩
theorem xSt_add {f : pln} {P Cd : List Nat} {x : Nat} (ht : t = 2 ∨ 15 ≤ t) (h : xSt t f P Cd) : xSt t (u2 (u2 f (t + 5) Cd.length (n32 x)) t 6 (n32 (Cd.length + 1))) P (Cd ++ [x]) := by
  obtain ⟨⟨h1, h2⟩, h3, h4⟩ := h
  refine ⟨⟨?_, pst_cg _ h2 (fun k _ => ?_)⟩, ?_, ?_⟩
  · rw [u2_n (by omega), u2_n (by omega)]; exact h1
  · rw [u2_n (by omega), u2_n (by omega)]
  · rw [u2_self, List.length_append]; rfl
  · refine seg_one (seg_in h4 (fun k _ hk => ?_)) ?_
    · rw [u2_n (by omega), u2_n (by omega)]
    · rw [u2_n (by omega), Nat.zero_add, u2_self]
theorem xSt_pend {f : pln} {P Cd : List Nat} {x : Nat} (ht : t = 2 ∨ 15 ≤ t) (h : xSt t f P Cd) : xSt t (u2 (u2 f 10 P.length (n32 x)) 1 11 (n32 (P.length + 1))) (x :: P) Cd := by
  obtain ⟨⟨h1, h2⟩, h3, h4⟩ := h
  refine ⟨⟨?_, ?_, pst_cg _ h2 (fun k hk => ?_)⟩, ?_, seg_cg h4 (fun k => ?_)⟩
  · rw [u2_self]; rfl
  · rw [u2_n (by omega), u2_self]
  · rw [u2_n (by omega), u2_n (by omega)]
  · rw [u2_n (by omega), u2_n (by omega)]; exact h3
  · rw [u2_n (by omega), u2_n (by omega)]
theorem x_settle {r : Nat} (ht : t = 2 ∨ 15 ≤ t) (hT : aTxt σ 1 2 = t) (hr : r ≤ 5) : ∀ (n : Nat) (P Cd : List Nat) (f : pln), P.length < n → xSt t f P Cd → P.length ≤ 32 → P.length + Cd.length ≤ 400 → (∀ x ∈ P, x < 20000) → Ok (H_X8_settle_0 N n (n32 r) (mk σ f)) (fun _ σ' => ∃ f', σ' = mk σ f' ∧ xSt t f' (ppB r P) (Cd ++ ppA r P) ∧ ∀ a k, (a ≠ 1 ∨ k ≠ 11) → (a ≠ t ∨ k ≠ 6) → a ≠ t + 5 → f' a k = f a k) := by
  intro n
  induction n with
  | zero => intro P Cd f h; omega
  | succ n ih =>
    intro P Cd f hn hS hP hC hx
    have h11 := hS.1.1
    rw [H_X8_settle_0]
    unfold J_X8_settle_54
    cases P with
    | nil =>
      with_reducible refine ok_ip (by first | assumption | omega | (simp (disch := omega) only [n32_of, neg_n32_1, n32_nat, n32_lt, n32_le, n32_eq, n32_add, n32_sub, n32_mul, n32_m1, m1_n32, n32_addm1, m1_lt, lt_m1, m1_le, le_m1, m1_add1, ofNat_n32, u2_self, u2_n, mk_I, mk_T, ne_eq, not_true_eq_false, not_false_eq_true, h11, List.length_nil]; first | done | omega)) ?_
      refine ok_some ⟨f, rfl, ?_, fun _ _ _ _ _ => rfl⟩
      rw [ppA, ppB, List.append_nil]
      exact hS
    | cons x P =>
      rw [List.length_cons] at h11 hn hP hC
      have hx2 := hx x List.mem_cons_self
      have hx1 := hS.1.2.1
      with_reducible refine ok_in (by first | assumption | omega | (simp (disch := omega) only [n32_of, neg_n32_1, n32_nat, n32_lt, n32_le, n32_eq, n32_add, n32_sub, n32_mul, n32_m1, m1_n32, n32_addm1, m1_lt, lt_m1, m1_le, le_m1, m1_add1, ofNat_n32, u2_self, u2_n, mk_I, mk_T, ne_eq, not_true_eq_false, not_false_eq_true, h11]; first | done | omega)) ?_
      with_reducible refine ok_cO (by first | assumption | omega | (simp (disch := omega) only [n32_of, neg_n32_1, n32_nat, n32_lt, n32_le, n32_eq, n32_add, n32_sub, n32_mul, n32_m1, m1_n32, n32_addm1, m1_lt, lt_m1, m1_le, le_m1, m1_add1, ofNat_n32, u2_self, u2_n, mk_I, mk_T, ne_eq, not_true_eq_false, not_false_eq_true, h11, Nat.add_sub_cancel]; first | done | omega)) ?_
      refine ok_oB (ok_eq (by simp (disch := omega) only [n32_of, neg_n32_1, n32_nat, n32_lt, n32_le, n32_eq, n32_add, n32_sub, n32_mul, n32_m1, m1_n32, n32_addm1, m1_lt, lt_m1, m1_le, le_m1, m1_add1, ofNat_n32, u2_self, u2_n, mk_I, mk_T, h11, Nat.add_sub_cancel, hx1]; exact s_rank hx2) (ok_some ?_))
      have hrk : rkx x ≤ 5 := by
        unfold rkx
        repeat' split
        all_goals omega
      by_cases hc : r ≤ rkx x
      · with_reducible refine ok_in (by first | assumption | omega | (simp (disch := omega) only [n32_of, neg_n32_1, n32_nat, n32_lt, n32_le, n32_eq, n32_add, n32_sub, n32_mul, n32_m1, m1_n32, n32_addm1, m1_lt, lt_m1, m1_le, le_m1, m1_add1, ofNat_n32, u2_self, u2_n, mk_I, mk_T, ne_eq, not_true_eq_false, not_false_eq_true, ]; first | done | omega)) ?_
        have h6 := hS.2.1
        have h6' : u2 f 1 11 (n32 P.length) t 6 = n32 Cd.length := by rw [u2_n (by omega)]; exact h6
        repeat (first | with_reducible refine ok_W ?_ | with_reducible refine ok_cO (by first | assumption | omega | (simp (disch := omega) only [n32_of, neg_n32_1, n32_nat, n32_lt, n32_le, n32_eq, n32_add, n32_sub, n32_mul, n32_m1, m1_n32, n32_addm1, m1_lt, lt_m1, m1_le, le_m1, m1_add1, ofNat_n32, u2_self, u2_n, mk_I, mk_T, ne_eq, not_true_eq_false, not_false_eq_true, h11, Nat.add_sub_cancel]; first | done | omega)) ?_ | with_reducible refine ok_ip (by first | assumption | omega | (simp (disch := omega) only [n32_of, neg_n32_1, n32_nat, n32_lt, n32_le, n32_eq, n32_add, n32_sub, n32_mul, n32_m1, m1_n32, n32_addm1, m1_lt, lt_m1, m1_le, le_m1, m1_add1, ofNat_n32, u2_self, u2_n, mk_I, mk_T, ne_eq, not_true_eq_false, not_false_eq_true, h11, Nat.add_sub_cancel]; first | done | omega)) ?_ | with_reducible refine ok_in (by first | assumption | omega | (simp (disch := omega) only [n32_of, neg_n32_1, n32_nat, n32_lt, n32_le, n32_eq, n32_add, n32_sub, n32_mul, n32_m1, m1_n32, n32_addm1, m1_lt, lt_m1, m1_le, le_m1, m1_add1, ofNat_n32, u2_self, u2_n, mk_I, mk_T, ne_eq, not_true_eq_false, not_false_eq_true, h11, Nat.add_sub_cancel]; first | done | omega)) ?_)
        simp (disch := omega) only [n32_of, neg_n32_1, n32_nat, n32_lt, n32_le, n32_eq, n32_add, n32_sub, n32_mul, n32_m1, m1_n32, n32_addm1, m1_lt, lt_m1, m1_le, le_m1, m1_add1, ofNat_n32, u2_self, u2_n, mk_I, mk_T, h11, Nat.add_sub_cancel, hx1, hT]
        rw [x_addCode h6' (by omega)]
        refine ok_oB (ok_some ?_)
        have hS2 : xSt t (u2 f 1 11 (n32 P.length)) P Cd := by
          obtain ⟨⟨g1, g2⟩, g3, g4⟩ := hS
          exact ⟨⟨u2_self, pst_cg _ g2.2 (fun k _ => u2_n (by omega))⟩, (u2_n (by omega)).trans g3, seg_cg g4 (fun k => u2_n (by omega))⟩
        refine ok_mono (ih P (Cd ++ [x]) _ (by omega) (xSt_add ht hS2) (by omega) (by rw [List.length_append, List.length_singleton]; omega) (fun y hy => hx y (List.mem_cons_of_mem _ hy))) (fun u σ' hq => ?_)
        obtain ⟨f', q1, q2, q3⟩ := hq
        refine ⟨f', q1, ?_, fun a k a1 a2 a3 => ?_⟩
        · rw [ppA, ppB, if_pos hc, if_pos hc]
          rw [List.append_assoc] at q2
          exact q2
        · rw [q3 a k a1 a2 a3, u2_n (by omega), u2_n (by omega), u2_n (by omega)]
      · with_reducible refine ok_ip (by first | assumption | omega | (simp (disch := omega) only [n32_of, neg_n32_1, n32_nat, n32_lt, n32_le, n32_eq, n32_add, n32_sub, n32_mul, n32_m1, m1_n32, n32_addm1, m1_lt, lt_m1, m1_le, le_m1, m1_add1, ofNat_n32, u2_self, u2_n, mk_I, mk_T, ne_eq, not_true_eq_false, not_false_eq_true, ]; first | done | omega)) ?_
        refine ok_some ⟨f, rfl, ?_, fun _ _ _ _ _ => rfl⟩
        rw [ppA, ppB, if_neg hc, if_neg hc, List.append_nil]
        exact hS
theorem x_fits {f : pln} {st pt op x : Nat} (h7 : f 1 7 = n32 st) (h8 : st ≠ 0 → f 1 8 = n32 pt) (h9 : f 1 9 = n32 op) (hst : st ≤ 2) (hpt : pt ≤ 2) (hop : op ≤ 6) (hx : x < 20000) : F_X8_fits N (n32 x) (mk σ f) = some (bI (fit st pt op x), mk σ f) := by
  unfold F_X8_fits J_X8_fits_78 J_X8_fits_153 J_X8_fits_158 J_X8_fits_136 J_X8_fits_141 J_X8_fits_98 J_X8_fits_54 J_X8_fits_59 J_X8_fits_27 J_X8_fits_32
  simp only [cO_t nar_b0, cO_t nar_b1, s_isRelation hx, s_isOperand N x _ hx, oB_s, bI_0, cO_t nar_bI]
  rcases (show st = 0 ∨ st = 1 ∨ st = 2 by omega) with rfl | rfl | rfl
  · rw [if_neg (by first | assumption | omega | (simp (disch := omega) only [n32_of, neg_n32_1, n32_nat, n32_lt, n32_le, n32_eq, n32_add, n32_sub, n32_mul, n32_m1, m1_n32, n32_addm1, m1_lt, lt_m1, m1_le, le_m1, m1_add1, ofNat_n32, u2_self, u2_n, mk_I, mk_T, ne_eq, not_true_eq_false, not_false_eq_true, h7]; first | done | omega))]
    simp (disch := omega) only [n32_of, neg_n32_1, n32_nat, n32_lt, n32_le, n32_eq, n32_add, n32_sub, n32_mul, n32_m1, m1_n32, n32_addm1, m1_lt, lt_m1, m1_le, le_m1, m1_add1, ofNat_n32, u2_self, u2_n, mk_I, mk_T, ne_eq]
    repeat' split
    all_goals first | (rw [bI_t (by omega)]; rfl) | (rw [bI_f (by omega)]; rfl)
  · rw [if_pos (by first | assumption | omega | (simp (disch := omega) only [n32_of, neg_n32_1, n32_nat, n32_lt, n32_le, n32_eq, n32_add, n32_sub, n32_mul, n32_m1, m1_n32, n32_addm1, m1_lt, lt_m1, m1_le, le_m1, m1_add1, ofNat_n32, u2_self, u2_n, mk_I, mk_T, ne_eq, not_true_eq_false, not_false_eq_true, h7]; first | done | omega)), if_neg (by first | assumption | omega | (simp (disch := omega) only [n32_of, neg_n32_1, n32_nat, n32_lt, n32_le, n32_eq, n32_add, n32_sub, n32_mul, n32_m1, m1_n32, n32_addm1, m1_lt, lt_m1, m1_le, le_m1, m1_add1, ofNat_n32, u2_self, u2_n, mk_I, mk_T, ne_eq, not_true_eq_false, not_false_eq_true, h7]; first | done | omega))]
    simp (disch := omega) only [n32_of, neg_n32_1, n32_nat, n32_lt, n32_le, n32_eq, n32_add, n32_sub, n32_mul, n32_m1, m1_n32, n32_addm1, m1_lt, lt_m1, m1_le, le_m1, m1_add1, ofNat_n32, u2_self, u2_n, mk_I, mk_T, ne_eq]
    repeat' split
    all_goals first | (rw [bI_t (by omega)]; rfl) | (rw [bI_f (by omega)]; rfl)
  · have h8 := h8 (by omega)
    rw [if_pos (by first | assumption | omega | (simp (disch := omega) only [n32_of, neg_n32_1, n32_nat, n32_lt, n32_le, n32_eq, n32_add, n32_sub, n32_mul, n32_m1, m1_n32, n32_addm1, m1_lt, lt_m1, m1_le, le_m1, m1_add1, ofNat_n32, u2_self, u2_n, mk_I, mk_T, ne_eq, not_true_eq_false, not_false_eq_true, h7]; first | done | omega)), if_pos (by first | assumption | omega | (simp (disch := omega) only [n32_of, neg_n32_1, n32_nat, n32_lt, n32_le, n32_eq, n32_add, n32_sub, n32_mul, n32_m1, m1_n32, n32_addm1, m1_lt, lt_m1, m1_le, le_m1, m1_add1, ofNat_n32, u2_self, u2_n, mk_I, mk_T, ne_eq, not_true_eq_false, not_false_eq_true, h7]; first | done | omega))]
    simp (disch := omega) only [n32_of, neg_n32_1, n32_nat, n32_lt, n32_le, n32_eq, n32_add, n32_sub, n32_mul, n32_m1, m1_n32, n32_addm1, m1_lt, lt_m1, m1_le, le_m1, m1_add1, ofNat_n32, u2_self, u2_n, mk_I, mk_T, ne_eq, h8, h9]
    repeat' split
    all_goals first | (rw [bI_t (by omega)]; rfl) | (rw [bI_f (by omega)]; rfl) | (congr 2; exact bI_cg (by omega))
theorem x_room {f : pln} {k st op nr x : Nat} (hT : aTxt σ 1 2 = t) (h6 : f 1 6 = n32 k) (h7 : f 1 7 = n32 st) (h9 : f 1 9 = n32 op) (h0 : f t 0 = n32 nr) (hk : k ≤ 400) (hst : st ≤ 2) (hop : op ≤ 6) (hnr : nr ≤ 20) (hx : x < 20000) (hfit : st = 0 → x ≠ 24) : F_X8_hasRoomFor N (n32 x) (mk σ f) = some (bI (x = 27 ∨ rmo k st op nr x), mk σ f) := by
  unfold F_X8_hasRoomFor J_X8_hasRoomFor_60 J_X8_hasRoomFor_65 J_X8_hasRoomFor_44
  simp only [cO_t nar_b0, cO_t nar_b1]
  simp (disch := omega) only [n32_of, neg_n32_1, n32_nat, n32_lt, n32_le, n32_eq, n32_add, n32_sub, n32_mul, n32_m1, m1_n32, n32_addm1, m1_lt, lt_m1, m1_le, le_m1, m1_add1, ofNat_n32, u2_self, u2_n, mk_I, mk_T, ne_eq, h6, h7, h9, hT, h0]
  repeat' split
  all_goals first | (rw [bI_t (by omega)]; rfl) | (rw [bI_f (by omega)]; rfl)
theorem x_fault {f : pln} {k st pt op nr x : Nat} (hT : aTxt σ 1 2 = t) (h6 : f 1 6 = n32 k) (h7 : f 1 7 = n32 st) (h8 : st ≠ 0 → f 1 8 = n32 pt) (h9 : f 1 9 = n32 op) (h0 : f t 0 = n32 nr) (hk : k ≤ 400) (hst : st ≤ 2) (hpt : pt ≤ 2) (hop : op ≤ 6) (hnr : nr ≤ 20) (hx : x < 20000) : F_X8_faultOf N (n32 x) (mk σ f) = some (n32 (if ¬ fit st pt op x then 1 else if x = 27 ∨ rmo k st op nr x then 0 else 2), mk σ f) := by
  unfold F_X8_faultOf J_X8_faultOf_23
  rw [x_fits h7 h8 h9 hst hpt hop hx, oB_s]
  by_cases h : fit st pt op x
  · rw [if_pos (show bI (fit st pt op x) ≠ 0 from yz h), if_neg (fun q => q h), x_room hT h6 h7 h9 h0 hk hst hop hnr hx (by omega), oB_s]
    by_cases h2 : x = 27 ∨ rmo k st op nr x
    · rw [if_neg (yz h2), if_pos h2]
      rfl
    · rw [if_pos (nz h2), if_neg h2]
      rfl
  · rw [if_neg (fun q => q (nz h)), if_pos h]
    rfl
end XP
