def rK (t : Nat) : Nat := if 32 ≤ t then 0 else if t ≤ 15 then 1 else if t = 17 then 2 else if t = 18 then 3 else 4
def rV (t : Nat) : Nat := if 32 ≤ t then t - 32 else t - 6
def segR (f : Nat → Nat → Int32) (p : Nat) (c : List Nat) : Prop := ∀ j, j < c.length → f 256 (p + j) = n32 (rK (c.getD j 0)) ∧ (opd (c.getD j 0) → f 257 (p + j) = n32 (rV (c.getD j 0)))
def arc (c : List Nat) : Prop := ∀ t ∈ c, opd t ∨ t = 17 ∨ t = 18 ∨ t = 19
theorem segR_hd {f : Nat → Nat → Int32} {p t : Nat} {c : List Nat} (h : segR f p (t :: c)) : f 256 p = n32 (rK t) ∧ (opd t → f 257 p = n32 (rV t)) := h 0 (Nat.zero_lt_succ _)
theorem segR_tl {f : Nat → Nat → Int32} {p t : Nat} {c : List Nat} (h : segR f p (t :: c)) : segR f (p + 1) c := fun j hj => by
  have := h (j + 1) (Nat.succ_lt_succ hj)
  rw [show p + 1 + j = p + (j + 1) by omega]
  exact this
theorem segR_cg {f f' : Nat → Nat → Int32} {p : Nat} {c : List Nat} (h : segR f p c) (e : ∀ k, f' 256 k = f 256 k) (e' : ∀ k, f' 257 k = f 257 k) : segR f' p c := fun j hj => ⟨(e _).trans (h j hj).1, fun ho => (e' _).trans ((h j hj).2 ho)⟩
theorem r_val {N E : Nat} {σ : aSt} (hE : E ≤ 7000) : ∀ (c : List Nat) (n p d : Nat) (f : Nat → Nat → Int32) (g : Nat → Int32), c.length < n → segR f p c → p + c.length = E → wfc c d → arc c → d ≤ 32 → (∀ k, k < d → f 275 k = g k) → Ok (H_X12_value_5 N n (n32 E) (n32 d) (n32 p) (mk σ f)) (fun y σ' => (0 < (evF (f 274) c d g).1 → y = (evF (f 274) c d g).2 0) ∧ ∃ f', σ' = mk σ f' ∧ ∀ a k, a ≠ 275 → f' a k = f a k) := by
  intro c
  induction c with
  | nil =>
    intro n p d f g hn hs hp hw ha hd hg
    obtain ⟨n, rfl⟩ : ∃ m, n = m + 1 := ⟨n - 1, by omega⟩
    simp only [List.length_nil] at hp
    rw [H_X12_value_5]
    repeat (first | with_reducible refine ok_W ?_ | with_reducible refine ok_cO (by first | assumption | omega | (simp (disch := omega) only [n32_of, neg_n32_1, n32_nat, n32_lt, n32_le, n32_eq, n32_add, n32_sub, n32_mul, n32_m1, m1_n32, n32_addm1, m1_lt, lt_m1, m1_le, le_m1, m1_add1, ofNat_n32, u2_self, u2_n, mk_I, mk_T, ne_eq, not_true_eq_false, not_false_eq_true, ]; first | done | omega)) ?_ | with_reducible refine ok_ip (by first | assumption | omega | (simp (disch := omega) only [n32_of, neg_n32_1, n32_nat, n32_lt, n32_le, n32_eq, n32_add, n32_sub, n32_mul, n32_m1, m1_n32, n32_addm1, m1_lt, lt_m1, m1_le, le_m1, m1_add1, ofNat_n32, u2_self, u2_n, mk_I, mk_T, ne_eq, not_true_eq_false, not_false_eq_true, ]; first | done | omega)) ?_ | with_reducible refine ok_in (by first | assumption | omega | (simp (disch := omega) only [n32_of, neg_n32_1, n32_nat, n32_lt, n32_le, n32_eq, n32_add, n32_sub, n32_mul, n32_m1, m1_n32, n32_addm1, m1_lt, lt_m1, m1_le, le_m1, m1_add1, ofNat_n32, u2_self, u2_n, mk_I, mk_T, ne_eq, not_true_eq_false, not_false_eq_true, ]; first | done | omega)) ?_)
    exact ok_some ⟨fun h => hg 0 h, f, rfl, fun _ _ _ => rfl⟩
  | cons x c ih =>
    intro n p d f g hn hs hp hw ha hd hg
    obtain ⟨n, rfl⟩ : ∃ m, n = m + 1 := ⟨n - 1, by omega⟩
    simp only [List.length_cons] at hp hn
    obtain ⟨hk, hv⟩ := segR_hd hs
    have hs' := segR_tl hs
    have hax := ha x (List.mem_cons_self)
    have ha' : arc c := fun t ht => ha t (List.mem_cons_of_mem _ ht)
    obtain ⟨hx2, hw⟩ := hw
    rw [H_X12_value_5]
    refine ok_in (by first | assumption | omega | (simp (disch := omega) only [n32_of, neg_n32_1, n32_nat, n32_lt, n32_le, n32_eq, n32_add, n32_sub, n32_mul, n32_m1, m1_n32, n32_addm1, m1_lt, lt_m1, m1_le, le_m1, m1_add1, ofNat_n32, u2_self, u2_n, mk_I, mk_T, ne_eq, not_true_eq_false, not_false_eq_true, ]; first | done | omega)) ?_
    refine ok_cO (by first | assumption | omega | (simp (disch := omega) only [n32_of, neg_n32_1, n32_nat, n32_lt, n32_le, n32_eq, n32_add, n32_sub, n32_mul, n32_m1, m1_n32, n32_addm1, m1_lt, lt_m1, m1_le, le_m1, m1_add1, ofNat_n32, u2_self, u2_n, mk_I, mk_T, ne_eq, not_true_eq_false, not_false_eq_true, ]; first | done | omega)) ?_
    by_cases ho : opd x
    · rw [if_pos ho] at hw
      rw [evF, if_pos ho]
      have hv := hv ho
      have key : Ok (H_X12_value_5 N n (n32 E) (n32 (d + 1)) (n32 (p + 1)) (mk σ (u2 f 275 d (wth (f 274) x)))) (fun y σ' => (0 < (evF (f 274) c (d + 1) (ug g d (wth (f 274) x))).1 → y = (evF (f 274) c (d + 1) (ug g d (wth (f 274) x))).2 0) ∧ ∃ f', σ' = mk σ f' ∧ ∀ a k, a ≠ 275 → f' a k = f a k) := by
        refine ok_mono (ih n (p + 1) (d + 1) (u2 f 275 d (wth (f 274) x)) (ug g d (wth (f 274) x)) (by omega) (segR_cg hs' (fun k => u2_n (by omega)) (fun k => u2_n (by omega))) (by omega) hw.2 ha' (by omega) (fun k hk => ?_)) (fun y σ' hq => ?_)
        · unfold ug
          by_cases e : k = d
          · rw [if_pos e, e, u2_self]
          · rw [if_neg e, u2_n (Or.inr e)]
            exact hg k (by omega)
        · have e22 : u2 f 275 d (wth (f 274) x) 274 = f 274 := by
            funext k
            exact u2_n (by omega)
          rw [e22] at hq
          obtain ⟨q1, f', q2, q3⟩ := hq
          exact ⟨q1, f', q2, fun a k h => (q3 a k h).trans (u2_n (by omega))⟩
      unfold J_X12_value_59 J_X12_value_138
      by_cases h32 : 32 ≤ x
      · have e1 : rK x = 0 := by simp [rK, h32]
        have e2 : rV x = x - 32 := by simp [rV, h32]
        have e3 : wth (f 274) x = n32 (x - 32) := by simp [wth, h32]
        rw [e1] at hk
        rw [e2] at hv
        rw [e3] at key
        repeat (first | with_reducible refine ok_W ?_ | with_reducible refine ok_cO (by first | assumption | omega | (simp (disch := omega) only [n32_of, neg_n32_1, n32_nat, n32_lt, n32_le, n32_eq, n32_add, n32_sub, n32_mul, n32_m1, m1_n32, n32_addm1, m1_lt, lt_m1, m1_le, le_m1, m1_add1, ofNat_n32, u2_self, u2_n, mk_I, mk_T, ne_eq, not_true_eq_false, not_false_eq_true, hk]; first | done | omega)) ?_ | with_reducible refine ok_ip (by first | assumption | omega | (simp (disch := omega) only [n32_of, neg_n32_1, n32_nat, n32_lt, n32_le, n32_eq, n32_add, n32_sub, n32_mul, n32_m1, m1_n32, n32_addm1, m1_lt, lt_m1, m1_le, le_m1, m1_add1, ofNat_n32, u2_self, u2_n, mk_I, mk_T, ne_eq, not_true_eq_false, not_false_eq_true, hk]; first | done | omega)) ?_ | with_reducible refine ok_in (by first | assumption | omega | (simp (disch := omega) only [n32_of, neg_n32_1, n32_nat, n32_lt, n32_le, n32_eq, n32_add, n32_sub, n32_mul, n32_m1, m1_n32, n32_addm1, m1_lt, lt_m1, m1_le, le_m1, m1_add1, ofNat_n32, u2_self, u2_n, mk_I, mk_T, ne_eq, not_true_eq_false, not_false_eq_true, hk]; first | done | omega)) ?_)
        simp (disch := omega) only [n32_of, neg_n32_1, n32_nat, n32_lt, n32_le, n32_eq, n32_add, n32_sub, n32_mul, n32_m1, m1_n32, n32_addm1, m1_lt, lt_m1, m1_le, le_m1, m1_add1, ofNat_n32, u2_self, u2_n, mk_I, mk_T, hv]
        rw [e3]
        exact key
      · have h15 : x ≤ 15 := by omega
        have e1 : rK x = 1 := by simp [rK, h32, h15]
        have e2 : rV x = x - 6 := by simp [rV, h32]
        have e3 : wth (f 274) x = f 274 (x - 6) := by simp [wth, h32]
        rw [e1] at hk
        rw [e2] at hv
        rw [e3] at key
        repeat (first | with_reducible refine ok_W ?_ | with_reducible refine ok_cO (by first | assumption | omega | (simp (disch := omega) only [n32_of, neg_n32_1, n32_nat, n32_lt, n32_le, n32_eq, n32_add, n32_sub, n32_mul, n32_m1, m1_n32, n32_addm1, m1_lt, lt_m1, m1_le, le_m1, m1_add1, ofNat_n32, u2_self, u2_n, mk_I, mk_T, ne_eq, not_true_eq_false, not_false_eq_true, hk, hv]; first | done | omega)) ?_ | with_reducible refine ok_ip (by first | assumption | omega | (simp (disch := omega) only [n32_of, neg_n32_1, n32_nat, n32_lt, n32_le, n32_eq, n32_add, n32_sub, n32_mul, n32_m1, m1_n32, n32_addm1, m1_lt, lt_m1, m1_le, le_m1, m1_add1, ofNat_n32, u2_self, u2_n, mk_I, mk_T, ne_eq, not_true_eq_false, not_false_eq_true, hk, hv]; first | done | omega)) ?_ | with_reducible refine ok_in (by first | assumption | omega | (simp (disch := omega) only [n32_of, neg_n32_1, n32_nat, n32_lt, n32_le, n32_eq, n32_add, n32_sub, n32_mul, n32_m1, m1_n32, n32_addm1, m1_lt, lt_m1, m1_le, le_m1, m1_add1, ofNat_n32, u2_self, u2_n, mk_I, mk_T, ne_eq, not_true_eq_false, not_false_eq_true, hk, hv]; first | done | omega)) ?_)
        simp (disch := omega) only [n32_of, neg_n32_1, n32_nat, n32_lt, n32_le, n32_eq, n32_add, n32_sub, n32_mul, n32_m1, m1_n32, n32_addm1, m1_lt, lt_m1, m1_le, le_m1, m1_add1, ofNat_n32, u2_self, u2_n, mk_I, mk_T, hv]
        rw [e3]
        exact key
    · rw [if_neg ho] at hw
      rw [evF, if_neg ho]
      have h1 : f 275 (d - 2) = g (d - 2) := hg _ (by omega)
      have h2 : f 275 (d - 1) = g (d - 1) := hg _ (by omega)
      have key : Ok (H_X12_value_5 N n (n32 E) (n32 (d - 1)) (n32 (p + 1)) (mk σ (u2 f 275 (d - 2) (comb x (g (d - 2)) (g (d - 1)))))) (fun y σ' => (0 < (evF (f 274) c (d - 1) (ug g (d - 2) (comb x (g (d - 2)) (g (d - 1))))).1 → y = (evF (f 274) c (d - 1) (ug g (d - 2) (comb x (g (d - 2)) (g (d - 1))))).2 0) ∧ ∃ f', σ' = mk σ f' ∧ ∀ a k, a ≠ 275 → f' a k = f a k) := by
        refine ok_mono (ih n (p + 1) (d - 1) (u2 f 275 (d - 2) (comb x (g (d - 2)) (g (d - 1)))) (ug g (d - 2) (comb x (g (d - 2)) (g (d - 1)))) (by omega) (segR_cg hs' (fun k => u2_n (by omega)) (fun k => u2_n (by omega))) (by omega) hw.2 ha' (by omega) (fun k hk => ?_)) (fun y σ' hq => ?_)
        · unfold ug
          by_cases e : k = d - 2
          · rw [if_pos e, e, u2_self]
          · rw [if_neg e, u2_n (Or.inr e)]
            exact hg k (by omega)
        · have e22 : u2 f 275 (d - 2) (comb x (g (d - 2)) (g (d - 1))) 274 = f 274 := by
            funext k
            exact u2_n (by omega)
          rw [e22] at hq
          obtain ⟨q1, f', q2, q3⟩ := hq
          exact ⟨q1, f', q2, fun a k h => (q3 a k h).trans (u2_n (by omega))⟩
      unfold J_X12_value_137 J_X12_value_138
      have ed : d - 1 - 1 = d - 2 := by omega
      rcases hax with h | h | h | h
      · exact absurd h ho
      · subst h
        have hk : f 256 p = n32 2 := hk
        repeat (first | with_reducible refine ok_W ?_ | with_reducible refine ok_cO (by first | assumption | omega | (simp (disch := omega) only [n32_of, neg_n32_1, n32_nat, n32_lt, n32_le, n32_eq, n32_add, n32_sub, n32_mul, n32_m1, m1_n32, n32_addm1, m1_lt, lt_m1, m1_le, le_m1, m1_add1, ofNat_n32, u2_self, u2_n, mk_I, mk_T, ne_eq, not_true_eq_false, not_false_eq_true, hk]; first | done | omega)) ?_ | with_reducible refine ok_ip (by first | assumption | omega | (simp (disch := omega) only [n32_of, neg_n32_1, n32_nat, n32_lt, n32_le, n32_eq, n32_add, n32_sub, n32_mul, n32_m1, m1_n32, n32_addm1, m1_lt, lt_m1, m1_le, le_m1, m1_add1, ofNat_n32, u2_self, u2_n, mk_I, mk_T, ne_eq, not_true_eq_false, not_false_eq_true, hk]; first | done | omega)) ?_ | with_reducible refine ok_in (by first | assumption | omega | (simp (disch := omega) only [n32_of, neg_n32_1, n32_nat, n32_lt, n32_le, n32_eq, n32_add, n32_sub, n32_mul, n32_m1, m1_n32, n32_addm1, m1_lt, lt_m1, m1_le, le_m1, m1_add1, ofNat_n32, u2_self, u2_n, mk_I, mk_T, ne_eq, not_true_eq_false, not_false_eq_true, hk]; first | done | omega)) ?_)
        simp (disch := omega) only [n32_of, neg_n32_1, n32_nat, n32_lt, n32_le, n32_eq, n32_add, n32_sub, n32_mul, n32_m1, m1_n32, n32_addm1, m1_lt, lt_m1, m1_le, le_m1, m1_add1, ofNat_n32, u2_self, u2_n, mk_I, mk_T, h1, h2, ed]
        exact key
      · subst h
        have hk : f 256 p = n32 3 := hk
        repeat (first | with_reducible refine ok_W ?_ | with_reducible refine ok_cO (by first | assumption | omega | (simp (disch := omega) only [n32_of, neg_n32_1, n32_nat, n32_lt, n32_le, n32_eq, n32_add, n32_sub, n32_mul, n32_m1, m1_n32, n32_addm1, m1_lt, lt_m1, m1_le, le_m1, m1_add1, ofNat_n32, u2_self, u2_n, mk_I, mk_T, ne_eq, not_true_eq_false, not_false_eq_true, hk]; first | done | omega)) ?_ | with_reducible refine ok_ip (by first | assumption | omega | (simp (disch := omega) only [n32_of, neg_n32_1, n32_nat, n32_lt, n32_le, n32_eq, n32_add, n32_sub, n32_mul, n32_m1, m1_n32, n32_addm1, m1_lt, lt_m1, m1_le, le_m1, m1_add1, ofNat_n32, u2_self, u2_n, mk_I, mk_T, ne_eq, not_true_eq_false, not_false_eq_true, hk]; first | done | omega)) ?_ | with_reducible refine ok_in (by first | assumption | omega | (simp (disch := omega) only [n32_of, neg_n32_1, n32_nat, n32_lt, n32_le, n32_eq, n32_add, n32_sub, n32_mul, n32_m1, m1_n32, n32_addm1, m1_lt, lt_m1, m1_le, le_m1, m1_add1, ofNat_n32, u2_self, u2_n, mk_I, mk_T, ne_eq, not_true_eq_false, not_false_eq_true, hk]; first | done | omega)) ?_)
        simp (disch := omega) only [n32_of, neg_n32_1, n32_nat, n32_lt, n32_le, n32_eq, n32_add, n32_sub, n32_mul, n32_m1, m1_n32, n32_addm1, m1_lt, lt_m1, m1_le, le_m1, m1_add1, ofNat_n32, u2_self, u2_n, mk_I, mk_T, h1, h2, ed]
        exact key
      · subst h
        have hk : f 256 p = n32 4 := hk
        repeat (first | with_reducible refine ok_W ?_ | with_reducible refine ok_cO (by first | assumption | omega | (simp (disch := omega) only [n32_of, neg_n32_1, n32_nat, n32_lt, n32_le, n32_eq, n32_add, n32_sub, n32_mul, n32_m1, m1_n32, n32_addm1, m1_lt, lt_m1, m1_le, le_m1, m1_add1, ofNat_n32, u2_self, u2_n, mk_I, mk_T, ne_eq, not_true_eq_false, not_false_eq_true, hk]; first | done | omega)) ?_ | with_reducible refine ok_ip (by first | assumption | omega | (simp (disch := omega) only [n32_of, neg_n32_1, n32_nat, n32_lt, n32_le, n32_eq, n32_add, n32_sub, n32_mul, n32_m1, m1_n32, n32_addm1, m1_lt, lt_m1, m1_le, le_m1, m1_add1, ofNat_n32, u2_self, u2_n, mk_I, mk_T, ne_eq, not_true_eq_false, not_false_eq_true, hk]; first | done | omega)) ?_ | with_reducible refine ok_in (by first | assumption | omega | (simp (disch := omega) only [n32_of, neg_n32_1, n32_nat, n32_lt, n32_le, n32_eq, n32_add, n32_sub, n32_mul, n32_m1, m1_n32, n32_addm1, m1_lt, lt_m1, m1_le, le_m1, m1_add1, ofNat_n32, u2_self, u2_n, mk_I, mk_T, ne_eq, not_true_eq_false, not_false_eq_true, hk]; first | done | omega)) ?_)
        simp (disch := omega) only [n32_of, neg_n32_1, n32_nat, n32_lt, n32_le, n32_eq, n32_add, n32_sub, n32_mul, n32_m1, m1_n32, n32_addm1, m1_lt, lt_m1, m1_le, le_m1, m1_add1, ofNat_n32, u2_self, u2_n, mk_I, mk_T, h1, h2, ed]
        exact key
/-- what code of one E is worth -/
def val (v : Nat → Int32) (c : List Nat) : Int32 := (evF v c 0 (fun _ => 0)).2 0
/-- a run on a deeper row -/
theorem evF_up (v : Nat → Int32) (d0 : Nat) : ∀ (c : List Nat) (d : Nat) (g h : Nat → Int32), wfc c d → (∀ k, k < d → h k = g (d0 + k)) → (evF v c (d0 + d) g).1 = d0 + (evF v c d h).1 ∧ (∀ k, k < (evF v c d h).1 → (evF v c d h).2 k = (evF v c (d0 + d) g).2 (d0 + k)) ∧ ∀ k, k < d0 → (evF v c (d0 + d) g).2 k = g k := by
  intro c
  induction c with
  | nil => intro d g h hw hh; exact ⟨rfl, hh, fun _ _ => rfl⟩
  | cons x c ih =>
    intro d g h hw hh
    obtain ⟨-, hw⟩ := hw
    by_cases ho : opd x
    · rw [if_pos ho] at hw
      rw [evF, if_pos ho, evF, if_pos ho]
      obtain ⟨q1, q2, q3⟩ := ih (d + 1) (ug g (d0 + d) (wth v x)) (ug h d (wth v x)) hw.2 (fun k hk => by
        unfold ug
        by_cases e : k = d
        · rw [if_pos e, if_pos (by omega)]
        · rw [if_neg e, if_neg (by omega)]
          exact hh k (by omega))
      refine ⟨q1, q2, fun k hk => (q3 k hk).trans ?_⟩
      unfold ug
      rw [if_neg (by omega)]
    · rw [if_neg ho] at hw
      rw [evF, if_neg ho, evF, if_neg ho]
      have e1 : d0 + d - 1 = d0 + (d - 1) := by omega
      have e2 : d0 + d - 2 = d0 + (d - 2) := by omega
      rw [e1, e2, ← hh (d - 2) (by omega), ← hh (d - 1) (by omega)]
      obtain ⟨q1, q2, q3⟩ := ih (d - 1) (ug g (d0 + (d - 2)) (comb x (h (d - 2)) (h (d - 1)))) (ug h (d - 2) (comb x (h (d - 2)) (h (d - 1)))) hw.2 (fun k hk => by
        unfold ug
        by_cases e : k = d - 2
        · rw [if_pos e, if_pos (by omega)]
        · rw [if_neg e, if_neg (by omega)]
          exact hh k (by omega))
      refine ⟨q1, q2, fun k hk => (q3 k hk).trans ?_⟩
      unfold ug
      rw [if_neg (by omega)]
theorem evF_app (v : Nat → Int32) : ∀ (c e : List Nat) (d : Nat) (g : Nat → Int32), evF v (c ++ e) d g = evF v e (evF v c d g).1 (evF v c d g).2 := by
  intro c
  induction c with
  | nil => intro e d g; rfl
  | cons x c ih =>
    intro e d g
    rw [List.cons_append, evF, evF]
    split
    · exact ih e _ _
    · exact ih e _ _
/-- one E of code: it leaves one number more -/
def one (c : List Nat) : Prop := (wfc c 0 ∧ wfc c 4) ∧ ∀ v, (evF v c 0 (fun _ => 0)).1 = 1
theorem one_ev {v : Nat → Int32} {c : List Nat} (h : one c) (d : Nat) (g : Nat → Int32) : (evF v c d g).1 = d + 1 ∧ (evF v c d g).2 d = val v c ∧ ∀ k, k < d → (evF v c d g).2 k = g k := by
  obtain ⟨q1, q2, q3⟩ := evF_up v d c 0 g (fun _ => 0) h.1.1 (fun k hk => absurd hk (Nat.not_lt_zero k))
  rw [h.2 v] at q1 q2
  refine ⟨q1, ?_, q3⟩
  exact (q2 0 Nat.one_pos).symm
