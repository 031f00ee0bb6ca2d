theorem evF_cg {v v' : Nat → Int32} (h : ∀ k, k < 10 → v k = v' k) : ∀ (c : List Nat) (d : Nat) (g : Nat → Int32), evF v c d g = evF v' c d g := by
  intro c
  induction c with
  | nil => intros; rfl
  | cons x c ih =>
    intro d g
    rw [evF, evF]
    by_cases ho : opd x
    · rw [if_pos ho, if_pos ho, ih]
      have : wth v x = wth v' x := by
        unfold wth
        by_cases h32 : 32 ≤ x
        · rw [if_pos h32, if_pos h32]
        · rw [if_neg h32, if_neg h32]
          exact h _ (by omega)
      rw [this]
    · rw [if_neg ho, if_neg ho, ih]
theorem val_cg {v v' : Nat → Int32} (h : ∀ k, k < 10 → v k = v' k) (c : List Nat) : val v c = val v' c := by
  unfold val
  rw [evF_cg h]
theorem rb_cg {v v' : Nat → Int32} (h : ∀ k, k < 10 → v k = v' k) (q : Rl) : rb v q = rb v' q := by
  unfold rb
  rw [val_cg h, val_cg h]
theorem hf_cg {v v' : Nat → Int32} (h : ∀ k, k < 10 → v k = v' k) : ∀ (rs : List Rl) (O A : Bool), hf v rs O A = hf v' rs O A := by
  intro rs
  induction rs with
  | nil => intros; rfl
  | cons q rs ih =>
    intro O A
    rw [hf, hf, ih, ih, rb_cg h]
theorem hol_cg {v v' : Nat → Int32} (h : ∀ k, k < 10 → v k = v' k) (rs : List Rl) : hol v rs = hol v' rs := by
  cases rs with
  | nil => rfl
  | cons q rs => rw [hol, hol, hf_cg h, rb_cg h]
theorem fst_cg {v v' : Nat → Int32} (h : ∀ k, k < 10 → v k = v' k) (w : Nat) : ∀ (rs : List Ru) (i : Nat), fst v w rs i = fst v' w rs i := by
  intro rs
  induction rs with
  | nil => intros; rfl
  | cons u rs ih =>
    intro i
    rw [fst, fst, ih, hol_cg h]
theorem vof_cg {v v' : Nat → Int32} (h : ∀ k, k < 10 → v k = v' k) (w : Nat) (d : Int32) : ∀ (rs : List Ru), vof v w d rs = vof v' w d rs := by
  intro rs
  induction rs with
  | nil => rfl
  | cons u rs ih => rw [vof, vof, ih, hol_cg h, val_cg h]
/-- what stands in the hall: how many lots and buyers, lots' fields, lasts, wants, credits, towns -/
abbrev HD : Type := Nat × Nat × (Nat → Nat → Nat) × (Nat → Int32) × (Nat → Nat → Nat) × (Nat → Nat) × (Nat → Nat)
abbrev hn (D : HD) : Nat := D.1
abbrev hm (D : HD) : Nat := D.2.1
abbrev lo (D : HD) : Nat → Nat → Nat := D.2.2.1
abbrev la (D : HD) : Nat → Int32 := D.2.2.2.1
abbrev wn (D : HD) : Nat → Nat → Nat := D.2.2.2.2.1
abbrev cr (D : HD) : Nat → Nat := D.2.2.2.2.2.1
abbrev tw (D : HD) : Nat → Nat := D.2.2.2.2.2.2
def HOK (D : HD) : Prop := hn D ≤ 24 ∧ hm D ≤ 6 ∧ (∀ i, i < hn D → lo D 0 i < 6 ∧ lo D 1 i < 6 ∧ lo D 2 i < 4 ∧ 1 ≤ lo D 3 i ∧ lo D 3 i ≤ 20 ∧ lo D 4 i < 10) ∧ (∀ b, b < hm D → tw D b < 4 ∧ cr D b ≤ 1000000) ∧ ∀ b k, b < 6 → k < 6 → wn D b k ≤ 500
def HX (f : Nat → Nat → Int32) (D : HD) : Prop := f 11 1 = n32 (hn D) ∧ f 11 3 = n32 (hm D) ∧ (∀ j i, j < 5 → i < hn D → f (23 + i) j = n32 (lo D j i)) ∧ (∀ k, k < 6 → f 14 k = la D k) ∧ (∀ b, b < hm D → f (47 + 9 * b) 0 = n32 (tw D b) ∧ f (47 + 9 * b) 1 = n32 (cr D b)) ∧ ∀ b k, b < 6 → k < 6 → f (47 + 9 * b + 1) k = n32 (wn D b k)
def HR (f : Nat → Nat → Int32) (D : HD) : Prop := f 235 37 = n32 (hn D) ∧ f 235 43 = n32 (hm D) ∧ (∀ j i, j < 5 → i < hn D → f (259 + j) i = n32 (lo D j i)) ∧ (∀ k, k < 6 → f 267 k = la D k) ∧ (∀ b, b < hm D → f 264 b = n32 (tw D b) ∧ f 265 b = n32 (cr D b)) ∧ ∀ b k, b < 6 → k < 6 → f 266 (6 * b + k) = n32 (wn D b k)
theorem HX_x {f f' : Nat → Nat → Int32} {a : Nat} {D : HD} (h : HX f D) (hD : HOK D) (e : eqx f f' a) (ha : a ≠ 11 ∧ a ≠ 14 ∧ (a < 23 ∨ 46 < a) ∧ (∀ b, b < 6 → a ≠ 47 + 9 * b ∧ a ≠ 47 + 9 * b + 1)) : HX f' D := by
  obtain ⟨h1, h2, h3, h4, h5, h6⟩ := h
  have n24 := hD.1
  have m6 := hD.2.1
  exact ⟨(e _ _ (by omega)).trans h1, (e _ _ (by omega)).trans h2, fun j i hj hi => (e _ _ (by omega)).trans (h3 j i hj hi), fun k hk => (e _ _ (by omega)).trans (h4 k hk), fun b hb => ⟨(e _ _ (by have := ha.2.2.2 b (by omega); omega)).trans (h5 b hb).1, (e _ _ (by have := ha.2.2.2 b (by omega); omega)).trans (h5 b hb).2⟩, fun b k hb hk => (e _ _ (by have := ha.2.2.2 b (by omega); omega)).trans (h6 b k hb hk)⟩
theorem HR_x {f f' : Nat → Nat → Int32} {a : Nat} {D : HD} (h : HR f D) (e : eqx f f' a) (ha : a < 235 ∨ (235 < a ∧ a < 259) ∨ 267 < a) : HR f' D := by
  obtain ⟨h1, h2, h3, h4, h5, h6⟩ := h
  exact ⟨(e _ _ (by omega)).trans h1, (e _ _ (by omega)).trans h2, fun j i hj hi => (e _ _ (by omega)).trans (h3 j i hj hi), fun k hk => (e _ _ (by omega)).trans (h4 k hk), fun b hb => ⟨(e _ _ (by omega)).trans (h5 b hb).1, (e _ _ (by omega)).trans (h5 b hb).2⟩, fun b k hb hk => (e _ _ (by omega)).trans (h6 b k hb hk)⟩
/-- the variables: of a lot alone, and for a buyer who has so many boxes of each kind and so much spent -/
def pv (D : HD) (i : Nat) (bt wa le : Int32) (k : Nat) : Int32 := if k < 5 then n32 (lo D k i) else if k = 5 then la D (lo D 1 i) else if k = 6 then bt else if k = 7 then wa else if k = 8 then le else n32 i
def bv (D : HD) (ha : Nat → Nat → Nat) (sp : Nat → Nat) (b i : Nat) : Nat → Int32 := pv D i (n32 (ha b (lo D 1 i))) (n32 (wn D b (lo D 1 i) - ha b (lo D 1 i))) (n32 (cr D b - sp b))
def lv (D : HD) (i : Nat) : Nat → Int32 := pv D i (n32 0) (n32 0) (n32 0)
theorem x_setLot {N i : Nat} {σ : aSt} {f : Nat → Nat → Int32} {D : HD} (hD : HOK D) (hX : HX f D) (hi : i < hn D) : Ok (F_X2_setLotVariables N (n32 i) (mk σ f)) (fun _ σ' => ∃ f', σ' = mk σ f' ∧ eqx f f' 22 ∧ ∀ k, k < 10 → f' 22 k = lv D i k) := by
  obtain ⟨h1, h2, h3, h4, h5, h6⟩ := hX
  obtain ⟨n24, m6, d1, d2, d3⟩ := hD
  have di := d1 i hi
  have e0 := h3 0 i (by omega) hi
  have e1 := h3 1 i (by omega) hi
  have e2 := h3 2 i (by omega) hi
  have e3 := h3 3 i (by omega) hi
  have e4 := h3 4 i (by omega) hi
  have e5 := h4 (lo D 1 i) (by omega)
  unfold F_X2_setLotVariables
  repeat (first | with_reducible refine ok_W ?_ | with_reducible refine ok_cO (by first | assumption | omega | (simp (disch := omega) only [n32_of, neg_n32_1, n32_nat, n32_lt, n32_le, n32_eq, n32_add, n32_sub, n32_mul, n32_m1, m1_n32, n32_addm1, m1_lt, lt_m1, m1_le, le_m1, m1_add1, ofNat_n32, u2_self, u2_n, mk_I, mk_T, ne_eq, not_true_eq_false, not_false_eq_true, e1]; first | done | omega)) ?_ | with_reducible refine ok_ip (by first | assumption | omega | (simp (disch := omega) only [n32_of, neg_n32_1, n32_nat, n32_lt, n32_le, n32_eq, n32_add, n32_sub, n32_mul, n32_m1, m1_n32, n32_addm1, m1_lt, lt_m1, m1_le, le_m1, m1_add1, ofNat_n32, u2_self, u2_n, mk_I, mk_T, ne_eq, not_true_eq_false, not_false_eq_true, e1]; first | done | omega)) ?_ | with_reducible refine ok_in (by first | assumption | omega | (simp (disch := omega) only [n32_of, neg_n32_1, n32_nat, n32_lt, n32_le, n32_eq, n32_add, n32_sub, n32_mul, n32_m1, m1_n32, n32_addm1, m1_lt, lt_m1, m1_le, le_m1, m1_add1, ofNat_n32, u2_self, u2_n, mk_I, mk_T, ne_eq, not_true_eq_false, not_false_eq_true, e1]; first | done | omega)) ?_)
  refine ok_some ⟨_, rfl, ?_, ?_⟩
  · intro b k hb
    simp (disch := omega) only [n32_of, neg_n32_1, n32_nat, n32_lt, n32_le, n32_eq, n32_add, n32_sub, n32_mul, n32_m1, m1_n32, n32_addm1, m1_lt, lt_m1, m1_le, le_m1, m1_add1, ofNat_n32, u2_self, u2_n, mk_I, mk_T, ]
  · intro k hk
    unfold lv pv
    rcases (show k = 0 ∨ k = 1 ∨ k = 2 ∨ k = 3 ∨ k = 4 ∨ k = 5 ∨ k = 6 ∨ k = 7 ∨ k = 8 ∨ k = 9 by omega) with rfl | rfl | rfl | rfl | rfl | rfl | rfl | rfl | rfl | rfl <;> simp (disch := omega) only [n32_of, neg_n32_1, n32_nat, n32_lt, n32_le, n32_eq, n32_add, n32_sub, n32_mul, n32_m1, m1_n32, n32_addm1, m1_lt, lt_m1, m1_le, le_m1, m1_add1, ofNat_n32, u2_self, u2_n, mk_I, e0, e1, e2, e3, e4, e5] <;> rfl
theorem x_stillWanted {N b k P : Nat} {σ : aSt} {f : Nat → Nat → Int32} {D : HD} {ha : Nat → Nat → Nat} (hD : HOK D) (hX : HX f D) (hb : b < 6) (hk : k < 6) (hh : f (P + 1) k = n32 (ha b k)) (hl : ha b k ≤ 1000) : F_X2_stillWanted N (n32 b) (n32 k) P (mk σ f) = some (n32 (wn D b k - ha b k), mk σ f) := by
  have h6 := hX.2.2.2.2.2 b k hb hk
  have d3 := hD.2.2.2.2 b k hb hk
  unfold F_X2_stillWanted
  rw [cO_t (by first | assumption | omega | (simp (disch := omega) only [n32_of, neg_n32_1, n32_nat, n32_lt, n32_le, n32_eq, n32_add, n32_sub, n32_mul, n32_m1, m1_n32, n32_addm1, m1_lt, lt_m1, m1_le, le_m1, m1_add1, ofNat_n32, u2_self, u2_n, mk_I, mk_T, ne_eq, not_true_eq_false, not_false_eq_true, ]; first | done | omega)), cO_t (by first | assumption | omega | (simp (disch := omega) only [n32_of, neg_n32_1, n32_nat, n32_lt, n32_le, n32_eq, n32_add, n32_sub, n32_mul, n32_m1, m1_n32, n32_addm1, m1_lt, lt_m1, m1_le, le_m1, m1_add1, ofNat_n32, u2_self, u2_n, mk_I, mk_T, ne_eq, not_true_eq_false, not_false_eq_true, ]; first | done | omega)), cO_t (by first | assumption | omega | (simp (disch := omega) only [n32_of, neg_n32_1, n32_nat, n32_lt, n32_le, n32_eq, n32_add, n32_sub, n32_mul, n32_m1, m1_n32, n32_addm1, m1_lt, lt_m1, m1_le, le_m1, m1_add1, ofNat_n32, u2_self, u2_n, mk_I, mk_T, ne_eq, not_true_eq_false, not_false_eq_true, ]; first | done | omega)), s_max]
  simp (disch := omega) only [n32_of, neg_n32_1, n32_nat, n32_lt, n32_le, n32_eq, n32_add, n32_sub, n32_mul, n32_m1, m1_n32, n32_addm1, m1_lt, lt_m1, m1_le, le_m1, m1_add1, ofNat_n32, u2_self, u2_n, mk_I, mk_T, h6, hh]
  show some ((if _ then _ else _), mk σ f) = _
  by_cases hc : ha b k ≤ wn D b k
  · rw [n32_sub hc]
    by_cases h0 : wn D b k - ha b k = 0
    · rw [h0, if_neg (by first | assumption | omega | (simp (disch := omega) only [n32_of, neg_n32_1, n32_nat, n32_lt, n32_le, n32_eq, n32_add, n32_sub, n32_mul, n32_m1, m1_n32, n32_addm1, m1_lt, lt_m1, m1_le, le_m1, m1_add1, ofNat_n32, u2_self, u2_n, mk_I, mk_T, ne_eq, not_true_eq_false, not_false_eq_true, ]; first | done | omega))]
    · rw [if_pos (by first | assumption | omega | (simp (disch := omega) only [n32_of, neg_n32_1, n32_nat, n32_lt, n32_le, n32_eq, n32_add, n32_sub, n32_mul, n32_m1, m1_n32, n32_addm1, m1_lt, lt_m1, m1_le, le_m1, m1_add1, ofNat_n32, u2_self, u2_n, mk_I, mk_T, ne_eq, not_true_eq_false, not_false_eq_true, ]; first | done | omega))]
  · have e : wn D b k - ha b k = 0 := by omega
    rw [e, if_neg]
    rw [Int32.lt_iff_toInt_lt, n32_toInt (by omega), Int32.toInt_sub, n32_toInt (by omega), n32_toInt (by omega), Int.bmod_eq_of_le] <;> omega
