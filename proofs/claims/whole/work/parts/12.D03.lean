abbrev Rl : Type := Bool × Nat × List Nat × List Nat
abbrev Ru : Type := Nat × List Nat × List Rl
def rb (v : Nat → Int32) (r : Rl) : Bool := decide (comb (20 + r.2.1) (val v r.2.2.1) (val v r.2.2.2) = n32 1)
def bB (b : Bool) : Int32 := if b then n32 1 else n32 0
def lB (b : Bool) (t : Nat) : List Nat := if b then [t] else []
/-- code behind a relation: what waits, and the further relations -/
def cc : List Rl → Bool → Bool → List Nat
  | [], O, A => lB A 5 ++ lB O 4
  | r :: rs, O, A => if r.1 then lB A 5 ++ (lB O 4 ++ (r.2.2.1 ++ (r.2.2.2 ++ ((20 + r.2.1) :: cc rs true false)))) else lB A 5 ++ (r.2.2.1 ++ (r.2.2.2 ++ ((20 + r.2.1) :: cc rs O true)))
def condC : List Rl → List Nat
  | [] => []
  | r :: rs => r.2.2.1 ++ (r.2.2.2 ++ ((20 + r.2.1) :: cc rs false false))
def hf (v : Nat → Int32) : List Rl → Bool → Bool → Bool
  | [], O, A => O || A
  | r :: rs, O, A => if r.1 then hf v rs (O || A) (rb v r) else hf v rs O (A && rb v r)
def hol (v : Nat → Int32) : List Rl → Bool
  | [] => true
  | r :: rs => hf v rs false (rb v r)
def hr (v : Nat → Int32) : List Rl → Bool → Bool
  | [], A => A
  | r :: rs, A => if r.1 && A then true else if A || r.1 then hr v rs (rb v r) else hr v rs false
theorem hf_hr (v : Nat → Int32) : ∀ (rs : List Rl) (O A : Bool), hf v rs O A = (O || hr v rs A) := by
  intro rs
  induction rs with
  | nil => intro O A; rfl
  | cons r rs ih =>
    intro O A
    rw [hf, hr]
    cases h : r.1 <;> cases A <;> cases O <;> simp [ih]
def okL (r : Rl) : Prop := r.2.1 < 4 ∧ (one r.2.2.1 ∧ arc r.2.2.1) ∧ one r.2.2.2 ∧ arc r.2.2.2
theorem rb_comb (v : Nat → Int32) (r : Rl) (h : okL r) : comb (20 + r.2.1) (val v r.2.2.1) (val v r.2.2.2) = bB (rb v r) := by
  have h4 := h.1
  have key : ∀ (s : Nat) (a b : Int32), s < 4 → comb (20 + s) a b = n32 0 ∨ comb (20 + s) a b = n32 1 := by
    intro s a b hs
    rcases (show s = 0 ∨ s = 1 ∨ s = 2 ∨ s = 3 by omega) with rfl | rfl | rfl | rfl
    · show bI (a = b) = _ ∨ bI (a = b) = _
      unfold bI; split
      · exact Or.inr rfl
      · exact Or.inl rfl
    · show bI (a ≠ b) = _ ∨ bI (a ≠ b) = _
      unfold bI; split
      · exact Or.inr rfl
      · exact Or.inl rfl
    · show bI (a < b) = _ ∨ bI (a < b) = _
      unfold bI; split
      · exact Or.inr rfl
      · exact Or.inl rfl
    · show bI (a ≤ b) = _ ∨ bI (a ≤ b) = _
      unfold bI; split
      · exact Or.inr rfl
      · exact Or.inl rfl
  unfold rb bB
  rcases key _ (val v r.2.2.1) (val v r.2.2.2) h4 with e | e
  · rw [e]; simp only [n32_eq (show 0 < 2147483648 by omega) (show 1 < 2147483648 by omega)]; rfl
  · rw [e]; simp
theorem comb_and (a b : Bool) : comb 5 (bB a) (bB b) = bB (a && b) := by cases a <;> cases b <;> decide
theorem comb_or (a b : Bool) : comb 4 (bB a) (bB b) = bB (a || b) := by cases a <;> cases b <;> decide
/-- the rows that wait: the or, the and, the relation -/
def stk (O A : Bool) (ob ab cb : Bool) : List Bool := (if O then [ob] else []) ++ (if A then [ab] else []) ++ [cb]
def onS (g : Nat → Int32) (s : List Bool) : Prop := ∀ k b, s[k]? = some b → g k = bB b
theorem evF_two {v : Nat → Int32} {e1 e2 c : List Nat} {s : Nat} {d : Nat} {g : Nat → Int32} (h1 : one e1) (h2 : one e2) (hs : ¬ opd (20 + s)) : ∃ g', evF v (e1 ++ (e2 ++ ((20 + s) :: c))) d g = evF v c (d + 1) g' ∧ g' d = comb (20 + s) (val v e1) (val v e2) ∧ ∀ k, k < d → g' k = g k := by
  rw [evF_app, evF_app]
  obtain ⟨p1, p2, p3⟩ := one_ev h1 (v := v) d g
  rw [p1]
  obtain ⟨q1, q2, q3⟩ := one_ev h2 (v := v) (d + 1) (evF v e1 d g).2
  rw [q1, evF, if_neg hs]
  refine ⟨_, rfl, ?_, fun k hk => ?_⟩
  · show ug _ _ _ d = _
    unfold ug
    rw [if_pos (by omega), show d + 1 + 1 - 2 = d by omega, show d + 1 + 1 - 1 = d + 1 by omega, q2, q3 d (by omega), p2]
  · show ug _ _ _ k = _
    unfold ug
    rw [if_neg (by omega), q3 k (by omega), p3 k hk]
theorem evF_op {v : Nat → Int32} {c : List Nat} {t d : Nat} {g : Nat → Int32} (ht : ¬ opd t) : evF v (t :: c) (d + 2) g = evF v c (d + 1) (ug g d (comb t (g d) (g (d + 1)))) := by
  rw [evF, if_neg ht]
  rfl
theorem cc_ev (v : Nat → Int32) : ∀ (rs : List Rl) (O A ob ab cb : Bool) (g : Nat → Int32), (∀ r ∈ rs, okL r) → onS g (stk O A ob ab cb) → (evF v (cc rs O A) (stk O A ob ab cb).length g).1 = 1 ∧ (evF v (cc rs O A) (stk O A ob ab cb).length g).2 0 = bB (hf v rs (O && ob) ((!A || ab) && cb)) := by
  intro rs
  induction rs with
  | nil =>
    intro O A ob ab cb g _ hg
    cases O <;> cases A
    · exact ⟨rfl, (hg 0 cb rfl).trans (by simp [hf])⟩
    · refine ⟨rfl, ?_⟩
      show ug g 0 (comb 5 (g 0) (g 1)) 0 = _
      rw [hg 0 ab rfl, hg 1 cb rfl, comb_and]
      simp [ug, hf]
    · refine ⟨rfl, ?_⟩
      show ug g 0 (comb 4 (g 0) (g 1)) 0 = _
      rw [hg 0 ob rfl, hg 1 cb rfl, comb_or]
      simp [ug, hf]
    · refine ⟨rfl, ?_⟩
      show ug (ug g 1 (comb 5 (g 1) (g 2))) 0 (comb 4 (ug g 1 (comb 5 (g 1) (g 2)) 0) (ug g 1 (comb 5 (g 1) (g 2)) 1)) 0 = _
      rw [hg 1 ab rfl, hg 2 cb rfl, comb_and]
      simp only [ug, if_true, show (0 : Nat) = 1 ↔ False by simp, if_false]
      rw [hg 0 ob rfl, comb_or]
      simp [hf]
  | cons r rs ih =>
    intro O A ob ab cb g hk hg
    have hr := hk r List.mem_cons_self
    have hrs : ∀ r ∈ rs, okL r := fun q hq => hk q (List.mem_cons_of_mem _ hq)
    have hs : ¬ opd (20 + r.2.1) := by have := hr.1; omega
    have fin : ∀ (O' A' : Bool) (ob' ab' : Bool) (d : Nat) (g1 : Nat → Int32), d = (stk O' A' ob' ab' (rb v r)).length - 1 → (∀ k b, k < d → (stk O' A' ob' ab' (rb v r))[k]? = some b → g1 k = bB b) → (evF v (r.2.2.1 ++ (r.2.2.2 ++ ((20 + r.2.1) :: cc rs O' A'))) d g1).1 = 1 ∧ (evF v (r.2.2.1 ++ (r.2.2.2 ++ ((20 + r.2.1) :: cc rs O' A'))) d g1).2 0 = bB (hf v rs (O' && ob') ((!A' || ab') && rb v r)) := by
      intro O' A' ob' ab' d g1 hd hg1
      obtain ⟨g', e1, e2, e3⟩ := evF_two (v := v) (c := cc rs O' A') (d := d) (g := g1) hr.2.1.1 hr.2.2.1 hs
      rw [e1]
      rw [rb_comb v r hr] at e2
      have hl : (stk O' A' ob' ab' (rb v r)).length = d + 1 := by
        have : 0 < (stk O' A' ob' ab' (rb v r)).length := by simp only [stk, List.length_append, List.length_singleton]; omega
        omega
      rw [← hl]
      refine ih O' A' ob' ab' (rb v r) g' hrs (fun k b hb => ?_)
      by_cases hkd : k < d
      · rw [e3 k hkd]
        exact hg1 k b hkd hb
      · have : k < d + 1 := by
          rw [← hl]
          exact (List.getElem?_eq_some_iff.mp hb).1
        have ek : k = d := by omega
        subst ek
        rw [e2]
        have : (stk O' A' ob' ab' (rb v r))[(stk O' A' ob' ab' (rb v r)).length - 1]? = some (rb v r) := by
          rw [← List.getLast?_eq_getElem?]
          simp [stk]
        rw [hl, Nat.add_sub_cancel, hb] at this
        cases this
        rfl
    rw [cc, hf]
    cases ho : r.1
    · -- and
      rw [if_neg (by simp), if_neg (by simp)]
      cases A
      · cases O
        · refine (fin false true ob cb 1 g rfl (fun k b hk' hb => ?_))
          rw [show k = 0 by omega] at hb ⊢
          cases hb
          exact hg 0 _ rfl
        · refine (fin true true ob cb 2 g rfl (fun k b hk' hb => ?_))
          rcases (show k = 0 ∨ k = 1 by omega) with rfl | rfl
          · cases hb; exact hg 0 _ rfl
          · cases hb; exact hg 1 _ rfl
      · cases O
        · show (evF v (5 :: (r.2.2.1 ++ _)) 2 g).1 = 1 ∧ (evF v (5 :: (r.2.2.1 ++ _)) 2 g).2 0 = _
          rw [evF_op (d := 0) (by decide), hg 0 ab rfl, hg 1 cb rfl, comb_and]
          refine (fin false true ob (ab && cb) 1 _ rfl (fun k b hk' hb => ?_))
          rw [show k = 0 by omega] at hb ⊢
          cases hb
          rfl
        · show (evF v (5 :: (r.2.2.1 ++ _)) 3 g).1 = 1 ∧ (evF v (5 :: (r.2.2.1 ++ _)) 3 g).2 0 = _
          rw [evF_op (d := 1) (by decide), hg 1 ab rfl, hg 2 cb rfl, comb_and]
          refine (fin true true ob (ab && cb) 2 _ rfl (fun k b hk' hb => ?_))
          rcases (show k = 0 ∨ k = 1 by omega) with rfl | rfl
          · cases hb; exact hg 0 _ rfl
          · cases hb; rfl
    · -- or
      rw [if_pos rfl, if_pos rfl]
      cases A
      · cases O
        · have := fin true false cb ab 1 g rfl (fun k b hk' hb => by
            rw [show k = 0 by omega] at hb ⊢
            cases hb
            exact hg 0 _ rfl)
          simpa [lB, stk] using this
        · show (evF v (4 :: (r.2.2.1 ++ _)) 2 g).1 = 1 ∧ (evF v (4 :: (r.2.2.1 ++ _)) 2 g).2 0 = _
          rw [evF_op (d := 0) (by decide), hg 0 ob rfl, hg 1 cb rfl, comb_or]
          have := fin true false (ob || cb) ab 1 (ug g 0 (bB (ob || cb))) rfl (fun k b hk' hb => by
            rw [show k = 0 by omega] at hb ⊢
            cases hb
            rfl)
          simpa using this
      · cases O
        · show (evF v (5 :: (r.2.2.1 ++ _)) 2 g).1 = 1 ∧ (evF v (5 :: (r.2.2.1 ++ _)) 2 g).2 0 = _
          rw [evF_op (d := 0) (by decide), hg 0 ab rfl, hg 1 cb rfl, comb_and]
          have := fin true false (ab && cb) ab 1 (ug g 0 (bB (ab && cb))) rfl (fun k b hk' hb => by
            rw [show k = 0 by omega] at hb ⊢
            cases hb
            rfl)
          simpa using this
        · show (evF v (5 :: (4 :: (r.2.2.1 ++ _))) 3 g).1 = 1 ∧ (evF v (5 :: (4 :: (r.2.2.1 ++ _))) 3 g).2 0 = _
          rw [evF_op (d := 1) (by decide), evF_op (d := 0) (by decide), hg 1 ab rfl, hg 2 cb rfl, comb_and]
          have e0 : ug g 1 (bB (ab && cb)) 0 = bB ob := hg 0 _ rfl
          have e1 : ug g 1 (bB (ab && cb)) 1 = bB (ab && cb) := rfl
          show (evF v _ 1 (ug (ug g 1 (bB (ab && cb))) 0 (comb 4 (ug g 1 (bB (ab && cb)) 0) (ug g 1 (bB (ab && cb)) 1)))).1 = 1 ∧ (evF v _ 1 (ug (ug g 1 (bB (ab && cb))) 0 (comb 4 (ug g 1 (bB (ab && cb)) 0) (ug g 1 (bB (ab && cb)) 1)))).2 0 = _
          rw [e0, e1, comb_or]
          have := fin true false (ob || (ab && cb)) ab 1 (ug (ug g 1 (bB (ab && cb))) 0 (bB (ob || (ab && cb)))) rfl (fun k b hk' hb => by
            rw [show k = 0 by omega] at hb ⊢
            cases hb
            rfl)
          simpa using this
theorem cond_ev (v : Nat → Int32) (r : Rl) (rs : List Rl) (h : ∀ q ∈ r :: rs, okL q) (g : Nat → Int32) : (evF v (condC (r :: rs)) 0 g).1 = 1 ∧ (evF v (condC (r :: rs)) 0 g).2 0 = bB (hol v (r :: rs)) := by
  have hr := h r List.mem_cons_self
  have hs : ¬ opd (20 + r.2.1) := by have := hr.1; omega
  obtain ⟨g', e1, e2, -⟩ := evF_two (v := v) (c := cc rs false false) (d := 0) (g := g) hr.2.1.1 hr.2.2.1 hs
  rw [condC, e1, hol]
  rw [rb_comb v r hr] at e2
  have := cc_ev v rs false false true true (rb v r) g' (fun q hq => h q (List.mem_cons_of_mem _ hq)) (fun k b hb => by
    have hk : k = 0 := by
      have := (List.getElem?_eq_some_iff.mp hb).1
      simp [stk] at this
      omega
    subst hk
    cases hb
    exact e2)
  simpa [stk] using this
