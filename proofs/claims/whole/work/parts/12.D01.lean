/-! ===== code of texts: its worth, by a row of waiting numbers ===== -/
def ug (g : Nat → Int32) (i : Nat) (x : Int32) : Nat → Int32 := fun k => if k = i then x else g k
def comb (t : Nat) (a b : Int32) : Int32 := if t = 5 then a &&& b else if t = 17 then a + b else if t = 18 then a - b else if t = 19 then a * b else if t = 20 then bI (a = b) else if t = 21 then bI (a ≠ b) else if t = 22 then bI (a < b) else if t = 23 then bI (a ≤ b) else a ||| b
abbrev opd (t : Nat) : Prop := 32 ≤ t ∨ (6 ≤ t ∧ t ≤ 15)
def wth (v : Nat → Int32) (t : Nat) : Int32 := if 32 ≤ t then n32 (t - 32) else v (t - 6)
def evF (v : Nat → Int32) : List Nat → Nat → (Nat → Int32) → Nat × (Nat → Int32)
  | [], d, g => (d, g)
  | t :: c, d, g => if opd t then evF v c (d + 1) (ug g d (wth v t)) else evF v c (d - 1) (ug g (d - 2) (comb t (g (d - 2)) (g (d - 1))))
def wfc : List Nat → Nat → Prop
  | [], _ => True
  | t :: c, d => t < 20000 ∧ if opd t then d < 32 ∧ wfc c (d + 1) else 2 ≤ d ∧ wfc c (d - 1)
theorem s_combine (N t : Nat) (a b : Int32) (σ : aSt) (ht : t < 20000) : F_X10_combine N (n32 t) a b σ = some (comb t a b, σ) := by
  unfold F_X10_combine comb
  simp (disch := omega) only [n32_of, neg_n32_1, n32_nat, n32_lt, n32_le, n32_eq, n32_add, n32_sub, n32_mul, n32_m1, m1_n32, n32_addm1, m1_lt, lt_m1, m1_le, le_m1, m1_add1, ofNat_n32, u2_self, u2_n, mk_I, mk_T, ]
  unfold J_X10_combine_114 J_X10_combine_125 J_X10_combine_136 J_X10_combine_147 J_X10_combine_152 bI
  by_cases h1 : t = 5
  · simp only [h1, if_true]
  by_cases h2 : t = 17
  · simp only [h2]; rfl
  by_cases h3 : t = 18
  · simp only [h3]; rfl
  by_cases h4 : t = 19
  · simp only [h4]; rfl
  by_cases h5 : t = 20
  · subst h5
    by_cases e : a = b
    · simp [e]; rfl
    · simp [e]; rfl
  by_cases h6 : t = 21
  · subst h6
    by_cases e : a = b
    · simp [e]; rfl
    · simp [e]; rfl
  by_cases h7 : t = 22
  · subst h7
    by_cases e : a < b
    · simp [e, Int32.not_le.mpr e]; rfl
    · simp [e, Int32.not_lt.mp e]; rfl
  by_cases h8 : t = 23
  · subst h8
    by_cases e : a ≤ b
    · simp [e, Int32.not_lt.mpr e]; rfl
    · simp [e, Int32.not_le.mp e]; rfl
  simp only [h1, h2, h3, h4, h5, h6, h7, h8, if_false]
theorem s_isOperand (N t : Nat) (σ : aSt) (ht : t < 20000) : F_X10_isOperand N (n32 t) σ = some (bI (opd t), σ) := by
  unfold F_X10_isOperand J_X10_isOperand_18 J_X10_isOperand_22 J_X10_isOperand_23
  rw [cO_t nar_b0, cO_t nar_b1]
  simp (disch := omega) only [n32_of, neg_n32_1, n32_nat, n32_lt, n32_le, n32_eq, n32_add, n32_sub, n32_mul, n32_m1, m1_n32, n32_addm1, m1_lt, lt_m1, m1_le, le_m1, m1_add1, ofNat_n32, u2_self, u2_n, mk_I, mk_T, ]
  by_cases h1 : 32 ≤ t
  · rw [if_pos h1, bI_t (Or.inl h1)]; rfl
  · rw [if_neg h1]
    by_cases h2 : t < 6
    · rw [if_pos h2, bI_f (by omega)]; rfl
    · rw [if_neg h2]
      by_cases h3 : 15 < t
      · rw [if_pos h3, bI_f (by omega)]; rfl
      · rw [if_neg h3, bI_t (by omega)]; rfl
theorem s_worth (N t : Nat) (σ : aSt) (f : Nat → Nat → Int32) (ht : t < 20000) (ho : opd t) : F_X10_worth N (n32 t) (mk σ f) = some (wth (f 22) t, mk σ f) := by
  unfold F_X10_worth J_X10_worth_32 J_X10_worth_33 wth
  by_cases h1 : 32 ≤ t
  · rw [if_pos h1, if_neg (by first | assumption | omega | (simp (disch := omega) only [n32_of, neg_n32_1, n32_nat, n32_lt, n32_le, n32_eq, n32_add, n32_sub, n32_mul, n32_m1, m1_n32, n32_addm1, m1_lt, lt_m1, m1_le, le_m1, m1_add1, ofNat_n32, u2_self, u2_n, mk_I, mk_T, ne_eq, not_true_eq_false, not_false_eq_true, ]; first | done | omega))]
    simp (disch := omega) only [n32_of, neg_n32_1, n32_nat, n32_lt, n32_le, n32_eq, n32_add, n32_sub, n32_mul, n32_m1, m1_n32, n32_addm1, m1_lt, lt_m1, m1_le, le_m1, m1_add1, ofNat_n32, u2_self, u2_n, mk_I, mk_T, ]
  · rw [if_neg h1, if_pos (by first | assumption | omega | (simp (disch := omega) only [n32_of, neg_n32_1, n32_nat, n32_lt, n32_le, n32_eq, n32_add, n32_sub, n32_mul, n32_m1, m1_n32, n32_addm1, m1_lt, lt_m1, m1_le, le_m1, m1_add1, ofNat_n32, u2_self, u2_n, mk_I, mk_T, ne_eq, not_true_eq_false, not_false_eq_true, ]; first | done | omega)), if_neg (by first | assumption | omega | (simp (disch := omega) only [n32_of, neg_n32_1, n32_nat, n32_lt, n32_le, n32_eq, n32_add, n32_sub, n32_mul, n32_m1, m1_n32, n32_addm1, m1_lt, lt_m1, m1_le, le_m1, m1_add1, ofNat_n32, u2_self, u2_n, mk_I, mk_T, ne_eq, not_true_eq_false, not_false_eq_true, ]; first | done | omega)), if_neg (by first | assumption | omega | (simp (disch := omega) only [n32_of, neg_n32_1, n32_nat, n32_lt, n32_le, n32_eq, n32_add, n32_sub, n32_mul, n32_m1, m1_n32, n32_addm1, m1_lt, lt_m1, m1_le, le_m1, m1_add1, ofNat_n32, u2_self, u2_n, mk_I, mk_T, ne_eq, not_true_eq_false, not_false_eq_true, ]; first | done | omega)), cO_t (by first | assumption | omega | (simp (disch := omega) only [n32_of, neg_n32_1, n32_nat, n32_lt, n32_le, n32_eq, n32_add, n32_sub, n32_mul, n32_m1, m1_n32, n32_addm1, m1_lt, lt_m1, m1_le, le_m1, m1_add1, ofNat_n32, u2_self, u2_n, mk_I, mk_T, ne_eq, not_true_eq_false, not_false_eq_true, ]; first | done | omega))]
    simp (disch := omega) only [n32_of, neg_n32_1, n32_nat, n32_lt, n32_le, n32_eq, n32_add, n32_sub, n32_mul, n32_m1, m1_n32, n32_addm1, m1_lt, lt_m1, m1_le, le_m1, m1_add1, ofNat_n32, u2_self, u2_n, mk_I, mk_T, ]
/-- code lies in a row -/
def seg (f : Nat → Nat → Int32) (a p : Nat) (c : List Nat) : Prop := ∀ j, j < c.length → f a (p + j) = n32 (c.getD j 0)
theorem seg_hd {f : Nat → Nat → Int32} {a p t : Nat} {c : List Nat} (h : seg f a p (t :: c)) : f a p = n32 t := h 0 (Nat.zero_lt_succ _)
theorem seg_tl {f : Nat → Nat → Int32} {a p t : Nat} {c : List Nat} (h : seg f a p (t :: c)) : seg f a (p + 1) c := fun j hj => by
  have := h (j + 1) (Nat.succ_lt_succ hj)
  rw [show p + 1 + j = p + (j + 1) by omega]
  exact this
theorem seg_cg {f f' : Nat → Nat → Int32} {a p : Nat} {c : List Nat} (h : seg f a p c) (e : ∀ k, f' a k = f a k) : seg f' a p c := fun j hj => (e _).trans (h j hj)
theorem seg_app {f : Nat → Nat → Int32} {a p : Nat} {c e : List Nat} (h : seg f a p (c ++ e)) : seg f a p c ∧ seg f a (p + c.length) e := by
  constructor
  · intro j hj
    have := h j (by rw [List.length_append]; omega)
    rw [this, List.getD_eq_getElem?_getD, List.getElem?_append_left hj, ← List.getD_eq_getElem?_getD]
  · intro j hj
    have := h (c.length + j) (by rw [List.length_append]; omega)
    rw [Nat.add_assoc, this, List.getD_eq_getElem?_getD, List.getElem?_append_right (by omega), ← List.getD_eq_getElem?_getD, Nat.add_sub_cancel_left]
theorem app_seg {f : Nat → Nat → Int32} {a p : Nat} {c e : List Nat} (h1 : seg f a p c) (h2 : seg f a (p + c.length) e) : seg f a p (c ++ e) := by
  intro j hj
  rw [List.length_append] at hj
  by_cases hc : j < c.length
  · rw [h1 j hc, List.getD_eq_getElem?_getD, List.getD_eq_getElem?_getD, List.getElem?_append_left hc]
  · have := h2 (j - c.length) (by omega)
    rw [show p + c.length + (j - c.length) = p + j by omega] at this
    rw [this, List.getD_eq_getElem?_getD, List.getD_eq_getElem?_getD, List.getElem?_append_right (by omega)]
theorem x_comp {N t cl E : Nat} {σ : aSt} (ht : t + 6 ≠ 22) (hcl : cl ≤ 400) (hE : E ≤ cl) : ∀ (c : List Nat) (n p d : Nat) (f : Nat → Nat → Int32) (g : Nat → Int32), c.length < n → seg f (t + 5) p c → p + c.length = E → f t 6 = n32 cl → wfc c d → d ≤ 32 → (∀ k, k < d → f (t + 6) k = g k) → Ok (H_X10_compute_6 N n t (n32 E) (n32 d) (n32 p) (mk σ f)) (fun y σ' => (0 < (evF (f 22) c d g).1 → y = (evF (f 22) c d g).2 0) ∧ ∃ f', σ' = mk σ f' ∧ ∀ a k, a ≠ t + 6 → f' a k = f a k) := by
  intro c
  induction c with
  | nil =>
    intro n p d f g hn hs hp h6 hw hd hg
    obtain ⟨n, rfl⟩ : ∃ m, n = m + 1 := ⟨n - 1, by omega⟩
    simp only [List.length_nil] at hp
    rw [H_X10_compute_6]
    repeat (first | with_reducible refine ok_W ?_ | with_reducible refine ok_cO (by first | assumption | omega | (simp (disch := omega) only [n32_of, neg_n32_1, n32_nat, n32_lt, n32_le, n32_eq, n32_add, n32_sub, n32_mul, n32_m1, m1_n32, n32_addm1, m1_lt, lt_m1, m1_le, le_m1, m1_add1, ofNat_n32, u2_self, u2_n, mk_I, mk_T, ne_eq, not_true_eq_false, not_false_eq_true, ]; first | done | omega)) ?_ | with_reducible refine ok_ip (by first | assumption | omega | (simp (disch := omega) only [n32_of, neg_n32_1, n32_nat, n32_lt, n32_le, n32_eq, n32_add, n32_sub, n32_mul, n32_m1, m1_n32, n32_addm1, m1_lt, lt_m1, m1_le, le_m1, m1_add1, ofNat_n32, u2_self, u2_n, mk_I, mk_T, ne_eq, not_true_eq_false, not_false_eq_true, ]; first | done | omega)) ?_ | with_reducible refine ok_in (by first | assumption | omega | (simp (disch := omega) only [n32_of, neg_n32_1, n32_nat, n32_lt, n32_le, n32_eq, n32_add, n32_sub, n32_mul, n32_m1, m1_n32, n32_addm1, m1_lt, lt_m1, m1_le, le_m1, m1_add1, ofNat_n32, u2_self, u2_n, mk_I, mk_T, ne_eq, not_true_eq_false, not_false_eq_true, ]; first | done | omega)) ?_)
    exact ok_some ⟨fun h => hg 0 h, f, rfl, fun _ _ _ => rfl⟩
  | cons x c ih =>
    intro n p d f g hn hs hp h6 hw hd hg
    obtain ⟨n, rfl⟩ : ∃ m, n = m + 1 := ⟨n - 1, by omega⟩
    simp only [List.length_cons] at hp hn
    have hx := seg_hd hs
    have hs' := seg_tl hs
    obtain ⟨hx2, hw⟩ := hw
    rw [H_X10_compute_6]
    repeat (first | with_reducible refine ok_W ?_ | with_reducible refine ok_cO (by first | assumption | omega | (simp (disch := omega) only [n32_of, neg_n32_1, n32_nat, n32_lt, n32_le, n32_eq, n32_add, n32_sub, n32_mul, n32_m1, m1_n32, n32_addm1, m1_lt, lt_m1, m1_le, le_m1, m1_add1, ofNat_n32, u2_self, u2_n, mk_I, mk_T, ne_eq, not_true_eq_false, not_false_eq_true, h6]; first | done | omega)) ?_ | with_reducible refine ok_ip (by first | assumption | omega | (simp (disch := omega) only [n32_of, neg_n32_1, n32_nat, n32_lt, n32_le, n32_eq, n32_add, n32_sub, n32_mul, n32_m1, m1_n32, n32_addm1, m1_lt, lt_m1, m1_le, le_m1, m1_add1, ofNat_n32, u2_self, u2_n, mk_I, mk_T, ne_eq, not_true_eq_false, not_false_eq_true, h6]; first | done | omega)) ?_ | with_reducible refine ok_in (by first | assumption | omega | (simp (disch := omega) only [n32_of, neg_n32_1, n32_nat, n32_lt, n32_le, n32_eq, n32_add, n32_sub, n32_mul, n32_m1, m1_n32, n32_addm1, m1_lt, lt_m1, m1_le, le_m1, m1_add1, ofNat_n32, u2_self, u2_n, mk_I, mk_T, ne_eq, not_true_eq_false, not_false_eq_true, h6]; first | done | omega)) ?_)
    refine ok_oB (ok_eq (by simp (disch := omega) only [n32_of, neg_n32_1, n32_nat, n32_lt, n32_le, n32_eq, n32_add, n32_sub, n32_mul, n32_m1, m1_n32, n32_addm1, m1_lt, lt_m1, m1_le, le_m1, m1_add1, ofNat_n32, u2_self, u2_n, mk_I, mk_T, hx]; exact s_isOperand N x _ hx2) (ok_some ?_))
    by_cases ho : opd x
    · rw [if_pos ho] at hw
      rw [evF, if_pos ho]
      refine ok_in (by rw [bI_0]; exact fun h => h ho) ?_
      refine ok_in (by first | assumption | omega | (simp (disch := omega) only [n32_of, neg_n32_1, n32_nat, n32_lt, n32_le, n32_eq, n32_add, n32_sub, n32_mul, n32_m1, m1_n32, n32_addm1, m1_lt, lt_m1, m1_le, le_m1, m1_add1, ofNat_n32, u2_self, u2_n, mk_I, mk_T, ne_eq, not_true_eq_false, not_false_eq_true, ]; first | done | omega)) ?_
      refine ok_oB (ok_eq (by simp (disch := omega) only [n32_of, neg_n32_1, n32_nat, n32_lt, n32_le, n32_eq, n32_add, n32_sub, n32_mul, n32_m1, m1_n32, n32_addm1, m1_lt, lt_m1, m1_le, le_m1, m1_add1, ofNat_n32, u2_self, u2_n, mk_I, mk_T, hx]; exact s_worth N x _ _ hx2 ho) (ok_some ?_))
      repeat (first | with_reducible refine ok_W ?_ | with_reducible refine ok_cO (by first | assumption | omega | (simp (disch := omega) only [n32_of, neg_n32_1, n32_nat, n32_lt, n32_le, n32_eq, n32_add, n32_sub, n32_mul, n32_m1, m1_n32, n32_addm1, m1_lt, lt_m1, m1_le, le_m1, m1_add1, ofNat_n32, u2_self, u2_n, mk_I, mk_T, ne_eq, not_true_eq_false, not_false_eq_true, ]; first | done | omega)) ?_ | with_reducible refine ok_ip (by first | assumption | omega | (simp (disch := omega) only [n32_of, neg_n32_1, n32_nat, n32_lt, n32_le, n32_eq, n32_add, n32_sub, n32_mul, n32_m1, m1_n32, n32_addm1, m1_lt, lt_m1, m1_le, le_m1, m1_add1, ofNat_n32, u2_self, u2_n, mk_I, mk_T, ne_eq, not_true_eq_false, not_false_eq_true, ]; first | done | omega)) ?_ | with_reducible refine ok_in (by first | assumption | omega | (simp (disch := omega) only [n32_of, neg_n32_1, n32_nat, n32_lt, n32_le, n32_eq, n32_add, n32_sub, n32_mul, n32_m1, m1_n32, n32_addm1, m1_lt, lt_m1, m1_le, le_m1, m1_add1, ofNat_n32, u2_self, u2_n, mk_I, mk_T, ne_eq, not_true_eq_false, not_false_eq_true, ]; first | done | omega)) ?_)
      unfold J_X10_compute_105
      simp (disch := omega) only [n32_of, neg_n32_1, n32_nat, n32_lt, n32_le, n32_eq, n32_add, n32_sub, n32_mul, n32_m1, m1_n32, n32_addm1, m1_lt, lt_m1, m1_le, le_m1, m1_add1, ofNat_n32, u2_self, u2_n, mk_I, mk_T, ]
      refine ok_mono (ih n (p + 1) (d + 1) (u2 f (t + 6) d (wth (f 22) x)) (ug g d (wth (f 22) x)) (by omega) (seg_cg hs' (fun k => u2_n (by omega))) (by omega) (by simp (disch := omega) only [n32_of, neg_n32_1, n32_nat, n32_lt, n32_le, n32_eq, n32_add, n32_sub, n32_mul, n32_m1, m1_n32, n32_addm1, m1_lt, lt_m1, m1_le, le_m1, m1_add1, ofNat_n32, u2_self, u2_n, mk_I, mk_T, ]; exact h6) hw.2 (by omega) (fun k hk => ?_)) (fun y σ' hq => ?_)
      · unfold ug
        by_cases e : k = d
        · rw [if_pos e, e, u2_self]
        · rw [if_neg e, u2_n (Or.inr e)]
          exact hg k (by omega)
      · have e22 : u2 f (t + 6) d (wth (f 22) x) 22 = f 22 := by
          funext k
          exact u2_n (by omega)
        rw [e22] at hq
        obtain ⟨q1, f', q2, q3⟩ := hq
        exact ⟨q1, f', q2, fun a k h => (q3 a k h).trans (u2_n (by omega))⟩
    · rw [if_neg ho] at hw
      rw [evF, if_neg ho]
      refine ok_ip (by rw [bI_0]; exact ho) ?_
      have h1 : f (t + 6) (d - 2) = g (d - 2) := hg _ (by omega)
      have h2 : f (t + 6) (d - 1) = g (d - 1) := hg _ (by omega)
      repeat (first | with_reducible refine ok_W ?_ | with_reducible refine ok_cO (by first | assumption | omega | (simp (disch := omega) only [n32_of, neg_n32_1, n32_nat, n32_lt, n32_le, n32_eq, n32_add, n32_sub, n32_mul, n32_m1, m1_n32, n32_addm1, m1_lt, lt_m1, m1_le, le_m1, m1_add1, ofNat_n32, u2_self, u2_n, mk_I, mk_T, ne_eq, not_true_eq_false, not_false_eq_true, ]; first | done | omega)) ?_ | with_reducible refine ok_ip (by first | assumption | omega | (simp (disch := omega) only [n32_of, neg_n32_1, n32_nat, n32_lt, n32_le, n32_eq, n32_add, n32_sub, n32_mul, n32_m1, m1_n32, n32_addm1, m1_lt, lt_m1, m1_le, le_m1, m1_add1, ofNat_n32, u2_self, u2_n, mk_I, mk_T, ne_eq, not_true_eq_false, not_false_eq_true, ]; first | done | omega)) ?_ | with_reducible refine ok_in (by first | assumption | omega | (simp (disch := omega) only [n32_of, neg_n32_1, n32_nat, n32_lt, n32_le, n32_eq, n32_add, n32_sub, n32_mul, n32_m1, m1_n32, n32_addm1, m1_lt, lt_m1, m1_le, le_m1, m1_add1, ofNat_n32, u2_self, u2_n, mk_I, mk_T, ne_eq, not_true_eq_false, not_false_eq_true, ]; first | done | omega)) ?_)
      refine ok_oB (ok_eq (by simp (disch := omega) only [n32_of, neg_n32_1, n32_nat, n32_lt, n32_le, n32_eq, n32_add, n32_sub, n32_mul, n32_m1, m1_n32, n32_addm1, m1_lt, lt_m1, m1_le, le_m1, m1_add1, ofNat_n32, u2_self, u2_n, mk_I, mk_T, hx, h1, h2]; exact s_combine N x _ _ _ hx2) (ok_some ?_))
      repeat (first | with_reducible refine ok_W ?_ | with_reducible refine ok_cO (by first | assumption | omega | (simp (disch := omega) only [n32_of, neg_n32_1, n32_nat, n32_lt, n32_le, n32_eq, n32_add, n32_sub, n32_mul, n32_m1, m1_n32, n32_addm1, m1_lt, lt_m1, m1_le, le_m1, m1_add1, ofNat_n32, u2_self, u2_n, mk_I, mk_T, ne_eq, not_true_eq_false, not_false_eq_true, ]; first | done | omega)) ?_ | with_reducible refine ok_ip (by first | assumption | omega | (simp (disch := omega) only [n32_of, neg_n32_1, n32_nat, n32_lt, n32_le, n32_eq, n32_add, n32_sub, n32_mul, n32_m1, m1_n32, n32_addm1, m1_lt, lt_m1, m1_le, le_m1, m1_add1, ofNat_n32, u2_self, u2_n, mk_I, mk_T, ne_eq, not_true_eq_false, not_false_eq_true, ]; first | done | omega)) ?_ | with_reducible refine ok_in (by first | assumption | omega | (simp (disch := omega) only [n32_of, neg_n32_1, n32_nat, n32_lt, n32_le, n32_eq, n32_add, n32_sub, n32_mul, n32_m1, m1_n32, n32_addm1, m1_lt, lt_m1, m1_le, le_m1, m1_add1, ofNat_n32, u2_self, u2_n, mk_I, mk_T, ne_eq, not_true_eq_false, not_false_eq_true, ]; first | done | omega)) ?_)
      unfold J_X10_compute_105
      simp (disch := omega) only [n32_of, neg_n32_1, n32_nat, n32_lt, n32_le, n32_eq, n32_add, n32_sub, n32_mul, n32_m1, m1_n32, n32_addm1, m1_lt, lt_m1, m1_le, le_m1, m1_add1, ofNat_n32, u2_self, u2_n, mk_I, mk_T, ]
      refine ok_mono (ih n (p + 1) (d - 1) (u2 f (t + 6) (d - 2) (comb x (g (d - 2)) (g (d - 1)))) (ug g (d - 2) (comb x (g (d - 2)) (g (d - 1)))) (by omega) (seg_cg hs' (fun k => u2_n (by omega))) (by omega) (by simp (disch := omega) only [n32_of, neg_n32_1, n32_nat, n32_lt, n32_le, n32_eq, n32_add, n32_sub, n32_mul, n32_m1, m1_n32, n32_addm1, m1_lt, lt_m1, m1_le, le_m1, m1_add1, ofNat_n32, u2_self, u2_n, mk_I, mk_T, ]; exact h6) hw.2 (by omega) (fun k hk => ?_)) (fun y σ' hq => ?_)
      · unfold ug
        by_cases e : k = d - 2
        · rw [if_pos e, e, u2_self]
        · rw [if_neg e, u2_n (Or.inr e)]
          exact hg k (by omega)
      · have e22 : u2 f (t + 6) (d - 2) (comb x (g (d - 2)) (g (d - 1))) 22 = f 22 := by
          funext k
          exact u2_n (by omega)
        rw [e22] at hq
        obtain ⟨q1, f', q2, q3⟩ := hq
        exact ⟨q1, f', q2, fun a k h => (q3 a k h).trans (u2_n (by omega))⟩
