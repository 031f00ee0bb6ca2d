theorem gdv_le (cs : List Nat) : ∀ r, gdv cs r ≤ 100 * r := by
  induction cs with
  | nil => intro r; exact Nat.zero_le _
  | cons c cs ih =>
    intro r
    rw [gdv]
    have h1 := ih r
    have h2 := ih (r - c)
    split <;> omega
theorem cfr_at {p : Nat → Bool} {n l : Nat} (h : l < n) : cfr p (n - l) l = if p l then l :: cfr p (n - (l + 1)) (l + 1) else cfr p (n - (l + 1)) (l + 1) := by
  rw [show n - l = (n - (l + 1)) + 1 by omega, cfr]
section RLOAD
variable {N : Nat} {σ : aSt} {D : HD} {Y : LY} {dr : Nat → SR} {Q : Unit → aSt → Prop}
abbrev scLd (a : Nat) : Prop := 294 ≤ a ∧ a ≤ 296
def FR (f : Nat → Nat → Int32) (D : HD) (Y : LY) (dr : Nat → SR) : Prop := HR f D ∧ (f 235 48 = n32 (yq Y) ∧ ∀ v, v < yq Y → f 268 v = n32 (yt Y v) ∧ f 269 v = n32 (yr Y v) ∧ f 270 v = n32 (yl Y v)) ∧ ∀ l, l < hn D → f 287 l = oI (dr l).1 ∧ f 289 l = n32 (dr l).2.2.1
theorem FR_S {f f' : Nat → Nat → Int32} (h : FR f D Y dr) (e : eqS scLd f f') : FR f' D Y dr := by
  obtain ⟨h1, ⟨h2, h3⟩, h4⟩ := h
  refine ⟨HR_S h1 e (by omega) (fun a _ _ => by omega), ⟨(e _ _ (by omega)).trans h2, fun v hv => ?_⟩, fun l hl => ?_⟩
  · have := h3 v hv
    exact ⟨(e _ _ (by omega)).trans this.1, (e _ _ (by omega)).trans this.2.1, (e _ _ (by omega)).trans this.2.2⟩
  · have := h4 l hl
    exact ⟨(e _ _ (by omega)).trans this.1, (e _ _ (by omega)).trans this.2⟩
/-- the lots that may be on this lorry, from one on -/
def cC (D : HD) (Y : LY) (dr : Nat → SR) (v l : Nat) : List Nat := cfr (pv1 D Y dr v) (hn D - l) l
theorem cC_at {v l : Nat} (h : l < hn D) : cC D Y dr v l = if pv1 D Y dr v l then l :: cC D Y dr v (l + 1) else cC D Y dr v (l + 1) := cfr_at h
theorem cC_end {v : Nat} : cC D Y dr v (hn D) = [] := by
  unfold cC
  rw [Nat.sub_self]
  rfl
theorem cC_0 {v : Nat} : cC D Y dr v 0 = cdl D Y dr v := rfl
def gR (f : Nat → Nat → Int32) (D : HD) (Y : LY) (dr : Nat → SR) (v l : Nat) : Prop := ∀ r, r < 61 → f 295 (61 * l + r) = n32 (gdv ((cC D Y dr v l).map (lo D 3)) r)
theorem r_take {v : Nat} {f0 : Nat → Nat → Int32} {k : Int32 → aSt → Option (Unit × aSt)} (hD : HOK D) (hY : yOK Y) (hv : v < yq Y) (hF : FR f0 D Y dr) (hM : ∀ l, l < hn D → f0 296 l = bB (pv1 D Y dr v l)) (hg : ∀ l, l ≤ hn D → gR f0 D Y dr v l) (h4 : ∀ l, l < hn D → f0 294 l = oI (on D Y dr v l)) (hk : ∀ f, eqS scLd f0 f → (∀ l, l < hn D → f 294 l = oI (on D Y dr (v + 1) l)) → Ok (k (n32 v + 1) (mk σ f)) Q) : ∀ (n l rest : Nat) (T : List Nat) (f : Nat → Nat → Int32), hn D < n + l → l ≤ hn D → rest ≤ 60 → eqx f0 f 294 → (∀ x, x < hn D → f 294 x = if x ∈ T then n32 v else oI (on D Y dr v x)) → (∀ x ∈ T, x < l) → T ++ selR (lo D 3) (cC D Y dr v l) rest = slv D Y dr v → Ok (H_X12_loads_283 N k n (n32 v) (n32 rest) (n32 l) (mk σ f)) Q := by
  have n24 := hD.1
  have q6 := hY.1
  intro n
  induction n with
  | zero => intro l rest T f h1 h2; omega
  | succ n ih =>
    intro l rest T f h1 h2 h3 he h94 hTl hsel
    have heS : eqS scLd f0 f := eqx_S he (by omega)
    have e37 := (FR_S hF heS).1.1
    rw [H_X12_loads_283]
    unfold J_X12_loads_375
    by_cases hl : hn D ≤ l
    · with_reducible refine ok_ip (by first | assumption | omega | (simp (disch := omega) only [n32_of, neg_n32_1, n32_nat, n32_lt, n32_le, n32_eq, n32_add, n32_sub, n32_mul, n32_m1, m1_n32, n32_addm1, m1_lt, lt_m1, m1_le, le_m1, m1_add1, ofNat_n32, u2_self, u2_n, mk_I, mk_T, ne_eq, not_true_eq_false, not_false_eq_true, e37]; first | done | omega)) ?_
      have el : l = hn D := by omega
      subst el
      rw [cC_end, selR, List.append_nil] at hsel
      refine hk f heS (fun x hx => ?_)
      rw [h94 x hx, on_s, hsel]
      split <;> rfl
    · with_reducible refine ok_in (by first | assumption | omega | (simp (disch := omega) only [n32_of, neg_n32_1, n32_nat, n32_lt, n32_le, n32_eq, n32_add, n32_sub, n32_mul, n32_m1, m1_n32, n32_addm1, m1_lt, lt_m1, m1_le, le_m1, m1_add1, ofNat_n32, u2_self, u2_n, mk_I, mk_T, ne_eq, not_true_eq_false, not_false_eq_true, e37]; first | done | omega)) ?_
      have hl' : l < hn D := by omega
      have dl := hD.2.2.1 l hl'
      have e96 := (he 296 l (by omega)).trans (hM l hl')
      have e62 : f 262 l = n32 (lo D 3 l) := (FR_S hF heS).1.2.2.1 3 l (by omega) hl'
      have hc := cC_at (Y := Y) (dr := dr) (v := v) hl'
      have g1 := (he 295 (61 * l + rest) (by omega)).trans (hg l (by omega) rest (by omega))
      have b1 := gdv_le ((cC D Y dr v l).map (lo D 3)) rest
      have skip : T ++ selR (lo D 3) (cC D Y dr v (l + 1)) rest = slv D Y dr v → Ok (H_X12_loads_283 N k n (n32 v) (n32 rest) (n32 (l + 1)) (mk σ f)) Q := fun hs => ih (l + 1) rest T f (by omega) (by omega) h3 he h94 (fun x hx => by have := hTl x hx; omega) hs
      with_reducible refine ok_cO (by first | assumption | omega | (simp (disch := omega) only [n32_of, neg_n32_1, n32_nat, n32_lt, n32_le, n32_eq, n32_add, n32_sub, n32_mul, n32_m1, m1_n32, n32_addm1, m1_lt, lt_m1, m1_le, le_m1, m1_add1, ofNat_n32, u2_self, u2_n, mk_I, mk_T, ne_eq, not_true_eq_false, not_false_eq_true, ]; first | done | omega)) ?_
      cases hp : pv1 D Y dr v l with
      | false =>
        rw [hp] at e96 hc
        with_reducible refine ok_ip (by first | assumption | omega | (simp (disch := omega) only [n32_of, neg_n32_1, n32_nat, n32_lt, n32_le, n32_eq, n32_add, n32_sub, n32_mul, n32_m1, m1_n32, n32_addm1, m1_lt, lt_m1, m1_le, le_m1, m1_add1, ofNat_n32, u2_self, u2_n, mk_I, mk_T, ne_eq, not_true_eq_false, not_false_eq_true, e96, bB_f]; first | done | omega)) ?_
        simp (disch := omega) only [n32_of, neg_n32_1, n32_nat, n32_lt, n32_le, n32_eq, n32_add, n32_sub, n32_mul, n32_m1, m1_n32, n32_addm1, m1_lt, lt_m1, m1_le, le_m1, m1_add1, ofNat_n32, u2_self, u2_n, mk_I, mk_T, ]
        refine skip ?_
        rw [hc] at hsel
        simpa using hsel
      | true =>
        rw [hp] at e96 hc
        have hc' : cC D Y dr v l = l :: cC D Y dr v (l + 1) := by simpa using hc
        rw [hc', selR] at hsel
        rw [hc'] at g1 b1
        with_reducible refine ok_in (by first | assumption | omega | (simp (disch := omega) only [n32_of, neg_n32_1, n32_nat, n32_lt, n32_le, n32_eq, n32_add, n32_sub, n32_mul, n32_m1, m1_n32, n32_addm1, m1_lt, lt_m1, m1_le, le_m1, m1_add1, ofNat_n32, u2_self, u2_n, mk_I, mk_T, ne_eq, not_true_eq_false, not_false_eq_true, e96, bB_t]; first | done | omega)) ?_
        with_reducible refine ok_cO (by first | assumption | omega | (simp (disch := omega) only [n32_of, neg_n32_1, n32_nat, n32_lt, n32_le, n32_eq, n32_add, n32_sub, n32_mul, n32_m1, m1_n32, n32_addm1, m1_lt, lt_m1, m1_le, le_m1, m1_add1, ofNat_n32, u2_self, u2_n, mk_I, mk_T, ne_eq, not_true_eq_false, not_false_eq_true, ]; first | done | omega)) ?_
        by_cases hbl : lo D 3 l ≤ rest
        · with_reducible refine ok_in (by first | assumption | omega | (simp (disch := omega) only [n32_of, neg_n32_1, n32_nat, n32_lt, n32_le, n32_eq, n32_add, n32_sub, n32_mul, n32_m1, m1_n32, n32_addm1, m1_lt, lt_m1, m1_le, le_m1, m1_add1, ofNat_n32, u2_self, u2_n, mk_I, mk_T, ne_eq, not_true_eq_false, not_false_eq_true, e62]; first | done | omega)) ?_
          have g2 := (he 295 (61 * (l + 1) + (rest - lo D 3 l)) (by omega)).trans (hg (l + 1) (by omega) (rest - lo D 3 l) (by omega))
          have b2 := gdv_le ((cC D Y dr v (l + 1)).map (lo D 3)) (rest - lo D 3 l)
          have ea : 61 * (l + 1) + rest - lo D 3 l = 61 * (l + 1) + (rest - lo D 3 l) := by omega
          with_reducible refine ok_cO (by first | assumption | omega | (simp (disch := omega) only [n32_of, neg_n32_1, n32_nat, n32_lt, n32_le, n32_eq, n32_add, n32_sub, n32_mul, n32_m1, m1_n32, n32_addm1, m1_lt, lt_m1, m1_le, le_m1, m1_add1, ofNat_n32, u2_self, u2_n, mk_I, mk_T, ne_eq, not_true_eq_false, not_false_eq_true, ]; first | done | omega)) ?_
          with_reducible refine ok_cO (by first | assumption | omega | (simp (disch := omega) only [n32_of, neg_n32_1, n32_nat, n32_lt, n32_le, n32_eq, n32_add, n32_sub, n32_mul, n32_m1, m1_n32, n32_addm1, m1_lt, lt_m1, m1_le, le_m1, m1_add1, ofNat_n32, u2_self, u2_n, mk_I, mk_T, ne_eq, not_true_eq_false, not_false_eq_true, ]; first | done | omega)) ?_
          with_reducible refine ok_cO (by first | assumption | omega | (simp (disch := omega) only [n32_of, neg_n32_1, n32_nat, n32_lt, n32_le, n32_eq, n32_add, n32_sub, n32_mul, n32_m1, m1_n32, n32_addm1, m1_lt, lt_m1, m1_le, le_m1, m1_add1, ofNat_n32, u2_self, u2_n, mk_I, mk_T, ne_eq, not_true_eq_false, not_false_eq_true, e62]; first | done | omega)) ?_
          with_reducible refine ok_cO (by first | assumption | omega | (simp (disch := omega) only [n32_of, neg_n32_1, n32_nat, n32_lt, n32_le, n32_eq, n32_add, n32_sub, n32_mul, n32_m1, m1_n32, n32_addm1, m1_lt, lt_m1, m1_le, le_m1, m1_add1, ofNat_n32, u2_self, u2_n, mk_I, mk_T, ne_eq, not_true_eq_false, not_false_eq_true, ]; first | done | omega)) ?_
          by_cases ht : gdv ((l :: cC D Y dr v (l + 1)).map (lo D 3)) rest ≤ 100 * lo D 3 l - 1 + gdv ((cC D Y dr v (l + 1)).map (lo D 3)) (rest - lo D 3 l)
          · rw [if_pos ⟨hbl, ht⟩] at hsel
            with_reducible refine ok_ip (by first | assumption | omega | (simp (disch := omega) only [n32_of, neg_n32_1, n32_nat, n32_lt, n32_le, n32_eq, n32_add, n32_sub, n32_mul, n32_m1, m1_n32, n32_addm1, m1_lt, lt_m1, m1_le, le_m1, m1_add1, ofNat_n32, u2_self, u2_n, mk_I, mk_T, ne_eq, not_true_eq_false, not_false_eq_true, e62, g1, ea, g2]; first | done | omega)) ?_
            repeat (first | with_reducible refine ok_W ?_ | with_reducible refine ok_cO (by first | assumption | omega | (simp (disch := omega) only [n32_of, neg_n32_1, n32_nat, n32_lt, n32_le, n32_eq, n32_add, n32_sub, n32_mul, n32_m1, m1_n32, n32_addm1, m1_lt, lt_m1, m1_le, le_m1, m1_add1, ofNat_n32, u2_self, u2_n, mk_I, mk_T, ne_eq, not_true_eq_false, not_false_eq_true, ]; first | done | omega)) ?_ | with_reducible refine ok_ip (by first | assumption | omega | (simp (disch := omega) only [n32_of, neg_n32_1, n32_nat, n32_lt, n32_le, n32_eq, n32_add, n32_sub, n32_mul, n32_m1, m1_n32, n32_addm1, m1_lt, lt_m1, m1_le, le_m1, m1_add1, ofNat_n32, u2_self, u2_n, mk_I, mk_T, ne_eq, not_true_eq_false, not_false_eq_true, ]; first | done | omega)) ?_ | with_reducible refine ok_in (by first | assumption | omega | (simp (disch := omega) only [n32_of, neg_n32_1, n32_nat, n32_lt, n32_le, n32_eq, n32_add, n32_sub, n32_mul, n32_m1, m1_n32, n32_addm1, m1_lt, lt_m1, m1_le, le_m1, m1_add1, ofNat_n32, u2_self, u2_n, mk_I, mk_T, ne_eq, not_true_eq_false, not_false_eq_true, ]; first | done | omega)) ?_)
            simp (disch := omega) only [n32_of, neg_n32_1, n32_nat, n32_lt, n32_le, n32_eq, n32_add, n32_sub, n32_mul, n32_m1, m1_n32, n32_addm1, m1_lt, lt_m1, m1_le, le_m1, m1_add1, ofNat_n32, u2_self, u2_n, mk_I, mk_T, e62]
            refine ih (l + 1) (rest - lo D 3 l) (T ++ [l]) _ (by omega) (by omega) (by omega) (fun a j ha => ?_) (fun x hx => ?_) (fun x hx => ?_) ?_
            · rw [u2_n (by omega)]
              exact he a j ha
            · by_cases e : x = l
              · subst e
                rw [u2_self, if_pos (by simp)]
              · rw [u2_n (by omega), h94 x hx]
                by_cases hm : x ∈ T
                · rw [if_pos hm, if_pos (by simp [hm])]
                · rw [if_neg hm, if_neg (by simp [hm, e])]
            · rcases List.mem_append.mp hx with h | h
              · have := hTl x h
                omega
              · have : x = l := by simpa using h
                omega
            · rw [List.append_assoc, List.singleton_append]
              exact hsel
          · rw [if_neg (fun q => ht q.2)] at hsel
            with_reducible refine ok_in (by first | assumption | omega | (simp (disch := omega) only [n32_of, neg_n32_1, n32_nat, n32_lt, n32_le, n32_eq, n32_add, n32_sub, n32_mul, n32_m1, m1_n32, n32_addm1, m1_lt, lt_m1, m1_le, le_m1, m1_add1, ofNat_n32, u2_self, u2_n, mk_I, mk_T, ne_eq, not_true_eq_false, not_false_eq_true, e62, g1, ea, g2]; first | done | omega)) ?_
            simp (disch := omega) only [n32_of, neg_n32_1, n32_nat, n32_lt, n32_le, n32_eq, n32_add, n32_sub, n32_mul, n32_m1, m1_n32, n32_addm1, m1_lt, lt_m1, m1_le, le_m1, m1_add1, ofNat_n32, u2_self, u2_n, mk_I, mk_T, ]
            exact skip hsel
        · rw [if_neg (fun q => hbl q.1)] at hsel
          with_reducible refine ok_ip (by first | assumption | omega | (simp (disch := omega) only [n32_of, neg_n32_1, n32_nat, n32_lt, n32_le, n32_eq, n32_add, n32_sub, n32_mul, n32_m1, m1_n32, n32_addm1, m1_lt, lt_m1, m1_le, le_m1, m1_add1, ofNat_n32, u2_self, u2_n, mk_I, mk_T, ne_eq, not_true_eq_false, not_false_eq_true, e62]; first | done | omega)) ?_
          simp (disch := omega) only [n32_of, neg_n32_1, n32_nat, n32_lt, n32_le, n32_eq, n32_add, n32_sub, n32_mul, n32_m1, m1_n32, n32_addm1, m1_lt, lt_m1, m1_le, le_m1, m1_add1, ofNat_n32, u2_self, u2_n, mk_I, mk_T, ]
          exact skip hsel
/-- one row of the reference's table -/
theorem r_grow {v l : Nat} {f0 : Nat → Nat → Int32} {k : Int32 → aSt → Option (Unit × aSt)} {k2 : Int32 → Int32 → aSt → Option (Unit × aSt)} (hD : HOK D) (hY : yOK Y) (hv : v < yq Y) (hl : l < hn D) (hF : FR f0 D Y dr) (hM : ∀ l, l < hn D → f0 296 l = bB (pv1 D Y dr v l)) (hg : ∀ l', l < l' → l' ≤ hn D → gR f0 D Y dr v l') (hk : ∀ f, eqx f0 f 295 → (∀ l', l ≤ l' → l' ≤ hn D → gR f D Y dr v l') → Ok (k2 (n32 v) (n32 l + (-1)) (mk σ f)) Q) : ∀ (n r : Nat) (f : Nat → Nat → Int32), 61 < n + r → r ≤ 61 → eqx f0 f 295 → (∀ j, ¬ (61 * l ≤ j ∧ j < 61 * l + r) → f 295 j = f0 295 j) → (∀ r', r' < r → f 295 (61 * l + r') = n32 (gdv ((cC D Y dr v l).map (lo D 3)) r')) → Ok (H_X12_loads_164 N k k2 n (n32 v) (n32 l) (n32 r) (mk σ f)) Q := by
  have n24 := hD.1
  have q6 := hY.1
  have dl := hD.2.2.1 l hl
  intro n
  induction n with
  | zero => intro r f h1 h2; omega
  | succ n ih =>
    intro r f h1 h2 he hout hd
    have e96 := (he 296 l (by omega)).trans (hM l hl)
    have e62 : f 262 l = n32 (lo D 3 l) := (he 262 l (by omega)).trans (hF.1.2.2.1 3 l (by omega) hl)
    rw [H_X12_loads_164]
    unfold J_X12_loads_249
    by_cases hr : 61 ≤ r
    · with_reducible refine ok_ip (by first | assumption | omega | (simp (disch := omega) only [n32_of, neg_n32_1, n32_nat, n32_lt, n32_le, n32_eq, n32_add, n32_sub, n32_mul, n32_m1, m1_n32, n32_addm1, m1_lt, lt_m1, m1_le, le_m1, m1_add1, ofNat_n32, u2_self, u2_n, mk_I, mk_T, ne_eq, not_true_eq_false, not_false_eq_true, ]; first | done | omega)) ?_
      refine hk f he (fun l' h1' h2' r' hr' => ?_)
      by_cases e : l' = l
      · subst e
        exact hd r' (by omega)
      · rw [hout _ (by omega)]
        exact hg l' (by omega) h2' r' hr'
    · with_reducible refine ok_in (by first | assumption | omega | (simp (disch := omega) only [n32_of, neg_n32_1, n32_nat, n32_lt, n32_le, n32_eq, n32_add, n32_sub, n32_mul, n32_m1, m1_n32, n32_addm1, m1_lt, lt_m1, m1_le, le_m1, m1_add1, ofNat_n32, u2_self, u2_n, mk_I, mk_T, ne_eq, not_true_eq_false, not_false_eq_true, ]; first | done | omega)) ?_
      have g1 : f 295 (61 * (l + 1) + r) = n32 (gdv ((cC D Y dr v (l + 1)).map (lo D 3)) r) := (hout _ (by omega)).trans (hg (l + 1) (by omega) (by omega) r (by omega))
      have b1 := gdv_le ((cC D Y dr v (l + 1)).map (lo D 3)) r
      have hc := cC_at (Y := Y) (dr := dr) (v := v) hl
      have put : ∀ x : Nat, x = gdv ((cC D Y dr v l).map (lo D 3)) r → Ok (cO (¬ (((61 * n32 l) + n32 r) < 0 ∨ 1525 ≤ ((61 * n32 l) + n32 r).toNatClampNeg)) (lt (aWI (mk σ f) 295 ((61 * n32 l) + n32 r).toNatClampNeg (n32 x)) fun σ17 => H_X12_loads_164 N k k2 n (n32 v) (n32 l) (n32 r + 1) σ17)) Q := by
        intro x hx
        repeat (first | with_reducible refine ok_W ?_ | with_reducible refine ok_cO (by first | assumption | omega | (simp (disch := omega) only [n32_of, neg_n32_1, n32_nat, n32_lt, n32_le, n32_eq, n32_add, n32_sub, n32_mul, n32_m1, m1_n32, n32_addm1, m1_lt, lt_m1, m1_le, le_m1, m1_add1, ofNat_n32, u2_self, u2_n, mk_I, mk_T, ne_eq, not_true_eq_false, not_false_eq_true, ]; first | done | omega)) ?_ | with_reducible refine ok_ip (by first | assumption | omega | (simp (disch := omega) only [n32_of, neg_n32_1, n32_nat, n32_lt, n32_le, n32_eq, n32_add, n32_sub, n32_mul, n32_m1, m1_n32, n32_addm1, m1_lt, lt_m1, m1_le, le_m1, m1_add1, ofNat_n32, u2_self, u2_n, mk_I, mk_T, ne_eq, not_true_eq_false, not_false_eq_true, ]; first | done | omega)) ?_ | with_reducible refine ok_in (by first | assumption | omega | (simp (disch := omega) only [n32_of, neg_n32_1, n32_nat, n32_lt, n32_le, n32_eq, n32_add, n32_sub, n32_mul, n32_m1, m1_n32, n32_addm1, m1_lt, lt_m1, m1_le, le_m1, m1_add1, ofNat_n32, u2_self, u2_n, mk_I, mk_T, ne_eq, not_true_eq_false, not_false_eq_true, ]; first | done | omega)) ?_)
        simp (disch := omega) only [n32_of, neg_n32_1, n32_nat, n32_lt, n32_le, n32_eq, n32_add, n32_sub, n32_mul, n32_m1, m1_n32, n32_addm1, m1_lt, lt_m1, m1_le, le_m1, m1_add1, ofNat_n32, u2_self, u2_n, mk_I, mk_T, ]
        refine ih (r + 1) _ (by omega) (by omega) (fun a j ha => ?_) (fun j hj => ?_) (fun r' hr' => ?_)
        · rw [u2_n (by omega)]
          exact he a j ha
        · rw [u2_n (by omega)]
          exact hout j (by omega)
        · by_cases e : r' = r
          · subst e
            rw [u2_self, hx]
          · rw [u2_n (by omega)]
            exact hd r' (by omega)
      have ea : aI (mk σ f) 295 ((61 * (n32 l + 1)) + n32 r).toNatClampNeg = n32 (gdv ((cC D Y dr v (l + 1)).map (lo D 3)) r) := by simp (disch := omega) only [n32_of, neg_n32_1, n32_nat, n32_lt, n32_le, n32_eq, n32_add, n32_sub, n32_mul, n32_m1, m1_n32, n32_addm1, m1_lt, lt_m1, m1_le, le_m1, m1_add1, ofNat_n32, u2_self, u2_n, mk_I, mk_T, g1]
      with_reducible refine ok_cO (by first | assumption | omega | (simp (disch := omega) only [n32_of, neg_n32_1, n32_nat, n32_lt, n32_le, n32_eq, n32_add, n32_sub, n32_mul, n32_m1, m1_n32, n32_addm1, m1_lt, lt_m1, m1_le, le_m1, m1_add1, ofNat_n32, u2_self, u2_n, mk_I, mk_T, ne_eq, not_true_eq_false, not_false_eq_true, ]; first | done | omega)) ?_
      with_reducible refine ok_cO (by first | assumption | omega | (simp (disch := omega) only [n32_of, neg_n32_1, n32_nat, n32_lt, n32_le, n32_eq, n32_add, n32_sub, n32_mul, n32_m1, m1_n32, n32_addm1, m1_lt, lt_m1, m1_le, le_m1, m1_add1, ofNat_n32, u2_self, u2_n, mk_I, mk_T, ne_eq, not_true_eq_false, not_false_eq_true, ]; first | done | omega)) ?_
      rw [ea]
      cases hp : pv1 D Y dr v l with
      | false =>
        rw [hp] at e96 hc
        have hc' : cC D Y dr v l = cC D Y dr v (l + 1) := by simpa using hc
        with_reducible refine ok_ip (by first | assumption | omega | (simp (disch := omega) only [n32_of, neg_n32_1, n32_nat, n32_lt, n32_le, n32_eq, n32_add, n32_sub, n32_mul, n32_m1, m1_n32, n32_addm1, m1_lt, lt_m1, m1_le, le_m1, m1_add1, ofNat_n32, u2_self, u2_n, mk_I, mk_T, ne_eq, not_true_eq_false, not_false_eq_true, e96, bB_f]; first | done | omega)) ?_
        exact put _ (by rw [hc'])
      | true =>
        rw [hp] at e96 hc
        have hc' : cC D Y dr v l = l :: cC D Y dr v (l + 1) := by simpa using hc
        with_reducible refine ok_in (by first | assumption | omega | (simp (disch := omega) only [n32_of, neg_n32_1, n32_nat, n32_lt, n32_le, n32_eq, n32_add, n32_sub, n32_mul, n32_m1, m1_n32, n32_addm1, m1_lt, lt_m1, m1_le, le_m1, m1_add1, ofNat_n32, u2_self, u2_n, mk_I, mk_T, ne_eq, not_true_eq_false, not_false_eq_true, e96, bB_t]; first | done | omega)) ?_
        with_reducible refine ok_cO (by first | assumption | omega | (simp (disch := omega) only [n32_of, neg_n32_1, n32_nat, n32_lt, n32_le, n32_eq, n32_add, n32_sub, n32_mul, n32_m1, m1_n32, n32_addm1, m1_lt, lt_m1, m1_le, le_m1, m1_add1, ofNat_n32, u2_self, u2_n, mk_I, mk_T, ne_eq, not_true_eq_false, not_false_eq_true, ]; first | done | omega)) ?_
        by_cases hbl : lo D 3 l ≤ r
        · with_reducible refine ok_in (by first | assumption | omega | (simp (disch := omega) only [n32_of, neg_n32_1, n32_nat, n32_lt, n32_le, n32_eq, n32_add, n32_sub, n32_mul, n32_m1, m1_n32, n32_addm1, m1_lt, lt_m1, m1_le, le_m1, m1_add1, ofNat_n32, u2_self, u2_n, mk_I, mk_T, ne_eq, not_true_eq_false, not_false_eq_true, e62]; first | done | omega)) ?_
          with_reducible refine ok_cO (by first | assumption | omega | (simp (disch := omega) only [n32_of, neg_n32_1, n32_nat, n32_lt, n32_le, n32_eq, n32_add, n32_sub, n32_mul, n32_m1, m1_n32, n32_addm1, m1_lt, lt_m1, m1_le, le_m1, m1_add1, ofNat_n32, u2_self, u2_n, mk_I, mk_T, ne_eq, not_true_eq_false, not_false_eq_true, ]; first | done | omega)) ?_
          with_reducible refine ok_cO (by first | assumption | omega | (simp (disch := omega) only [n32_of, neg_n32_1, n32_nat, n32_lt, n32_le, n32_eq, n32_add, n32_sub, n32_mul, n32_m1, m1_n32, n32_addm1, m1_lt, lt_m1, m1_le, le_m1, m1_add1, ofNat_n32, u2_self, u2_n, mk_I, mk_T, ne_eq, not_true_eq_false, not_false_eq_true, ]; first | done | omega)) ?_
          with_reducible refine ok_cO (by first | assumption | omega | (simp (disch := omega) only [n32_of, neg_n32_1, n32_nat, n32_lt, n32_le, n32_eq, n32_add, n32_sub, n32_mul, n32_m1, m1_n32, n32_addm1, m1_lt, lt_m1, m1_le, le_m1, m1_add1, ofNat_n32, u2_self, u2_n, mk_I, mk_T, ne_eq, not_true_eq_false, not_false_eq_true, e62]; first | done | omega)) ?_
          have g2 : f 295 (61 * (l + 1) + (r - lo D 3 l)) = n32 (gdv ((cC D Y dr v (l + 1)).map (lo D 3)) (r - lo D 3 l)) := (hout _ (by omega)).trans (hg (l + 1) (by omega) (by omega) _ (by omega))
          have b2 := gdv_le ((cC D Y dr v (l + 1)).map (lo D 3)) (r - lo D 3 l)
          have e2 : 61 * (l + 1) + r - lo D 3 l = 61 * (l + 1) + (r - lo D 3 l) := by omega
          have eb : ((100 * aI (mk σ f) 262 (n32 l).toNatClampNeg) - 1) + aI (mk σ f) 295 (((61 * (n32 l + 1)) + n32 r) - aI (mk σ f) 262 (n32 l).toNatClampNeg).toNatClampNeg = n32 (100 * lo D 3 l - 1 + gdv ((cC D Y dr v (l + 1)).map (lo D 3)) (r - lo D 3 l)) := by simp (disch := omega) only [n32_of, neg_n32_1, n32_nat, n32_lt, n32_le, n32_eq, n32_add, n32_sub, n32_mul, n32_m1, m1_n32, n32_addm1, m1_lt, lt_m1, m1_le, le_m1, m1_add1, ofNat_n32, u2_self, u2_n, mk_I, mk_T, e62, e2, g2]
          rw [eb]
          have eg : gdv ((cC D Y dr v l).map (lo D 3)) r = max (gdv ((cC D Y dr v (l + 1)).map (lo D 3)) r) (100 * lo D 3 l - 1 + gdv ((cC D Y dr v (l + 1)).map (lo D 3)) (r - lo D 3 l)) := by rw [hc', List.map_cons, gdv, if_pos hbl]
          by_cases hle : 100 * lo D 3 l - 1 + gdv ((cC D Y dr v (l + 1)).map (lo D 3)) (r - lo D 3 l) ≤ gdv ((cC D Y dr v (l + 1)).map (lo D 3)) r
          · with_reducible refine ok_ip (by first | assumption | omega | (simp (disch := omega) only [n32_of, neg_n32_1, n32_nat, n32_lt, n32_le, n32_eq, n32_add, n32_sub, n32_mul, n32_m1, m1_n32, n32_addm1, m1_lt, lt_m1, m1_le, le_m1, m1_add1, ofNat_n32, u2_self, u2_n, mk_I, mk_T, ne_eq, not_true_eq_false, not_false_eq_true, ]; first | done | omega)) ?_
            exact put _ (by rw [eg]; omega)
          · with_reducible refine ok_in (by first | assumption | omega | (simp (disch := omega) only [n32_of, neg_n32_1, n32_nat, n32_lt, n32_le, n32_eq, n32_add, n32_sub, n32_mul, n32_m1, m1_n32, n32_addm1, m1_lt, lt_m1, m1_le, le_m1, m1_add1, ofNat_n32, u2_self, u2_n, mk_I, mk_T, ne_eq, not_true_eq_false, not_false_eq_true, ]; first | done | omega)) ?_
            exact put _ (by rw [eg]; omega)
        · with_reducible refine ok_ip (by first | assumption | omega | (simp (disch := omega) only [n32_of, neg_n32_1, n32_nat, n32_lt, n32_le, n32_eq, n32_add, n32_sub, n32_mul, n32_m1, m1_n32, n32_addm1, m1_lt, lt_m1, m1_le, le_m1, m1_add1, ofNat_n32, u2_self, u2_n, mk_I, mk_T, ne_eq, not_true_eq_false, not_false_eq_true, e62]; first | done | omega)) ?_
          exact put _ (by rw [hc', List.map_cons, gdv, if_neg hbl])
theorem r_lorry {v : Nat} {f0 : Nat → Nat → Int32} {k : Int32 → aSt → Option (Unit × aSt)} (hN : 1000 ≤ N) (hD : HOK D) (hd : dOK D dr) (hY : yOK Y) (hv : v < yq Y) (hF : FR f0 D Y dr) (h4 : ∀ l, l < hn D → f0 294 l = oI (on D Y dr v l)) (hk : ∀ f, eqS scLd f0 f → (∀ l, l < hn D → f 294 l = oI (on D Y dr (v + 1) l)) → Ok (k (n32 v + 1) (mk σ f)) Q) : Ok (H_X12_loads_35 N k N (n32 v) (n32 0) (mk σ f0)) Q := by
  have n24 := hD.1
  have m6 := hD.2.1
  have q6 := hY.1
  have hyv := hY.2 v hv
  -- the rows behind each other
  have rows : ∀ (n l : Nat) (f : Nat → Nat → Int32), l < n → l ≤ hn D → eqS (fun a => 295 ≤ a ∧ a ≤ 296) f0 f → (∀ l, l < hn D → f 296 l = bB (pv1 D Y dr v l)) → (∀ l', l ≤ l' → l' ≤ hn D → gR f D Y dr v l') → Ok (H_X12_loads_158 N k n (n32 v) (n32 l + (-1)) (mk σ f)) Q := by
    intro n
    induction n with
    | zero => intro l f h1; omega
    | succ n ih =>
      intro l f h1 h2 he hM hg
      rw [H_X12_loads_158]
      have hFf := FR_S hF (eqS_mono he (fun a ha => by omega))
      by_cases h0 : l = 0
      · subst h0
        with_reducible refine ok_ip ?_ ?_
        · decide
        with_reducible refine ok_cO (by first | assumption | omega | (simp (disch := omega) only [n32_of, neg_n32_1, n32_nat, n32_lt, n32_le, n32_eq, n32_add, n32_sub, n32_mul, n32_m1, m1_n32, n32_addm1, m1_lt, lt_m1, m1_le, le_m1, m1_add1, ofNat_n32, u2_self, u2_n, mk_I, mk_T, ne_eq, not_true_eq_false, not_false_eq_true, ]; first | done | omega)) ?_
        have e69 := (hFf.2.1.2 v hv).2.1
        simp (disch := omega) only [n32_of, neg_n32_1, n32_nat, n32_lt, n32_le, n32_eq, n32_add, n32_sub, n32_mul, n32_m1, m1_n32, n32_addm1, m1_lt, lt_m1, m1_le, le_m1, m1_add1, ofNat_n32, u2_self, u2_n, mk_I, mk_T, e69]
        refine r_take hD hY hv hFf hM (fun l hl => hg l (by omega) hl) (fun l hl => (he _ _ (by omega)).trans (h4 l hl)) (fun f' he' h' => hk f' (eqS_tr (eqS_mono he (fun a ha => by omega)) he') h') N 0 (yr Y v) [] f (by omega) (by omega) (by omega) (fun _ _ _ => rfl) (fun x hx => ?_) (fun x hx => by cases hx) ?_
        · rw [if_neg (by simp)]
          exact (he _ _ (by omega)).trans (h4 x hx)
        · rw [List.nil_append, cC_0]
          rfl
      · have e1 : n32 l + (-1) = n32 (l - 1) := n32_addm1 (by omega)
        rw [e1]
        with_reducible refine ok_in (by first | assumption | omega | (simp (disch := omega) only [n32_of, neg_n32_1, n32_nat, n32_lt, n32_le, n32_eq, n32_add, n32_sub, n32_mul, n32_m1, m1_n32, n32_addm1, m1_lt, lt_m1, m1_le, le_m1, m1_add1, ofNat_n32, u2_self, u2_n, mk_I, mk_T, ne_eq, not_true_eq_false, not_false_eq_true, ]; first | done | omega)) ?_
        refine r_grow hD hY hv (by omega) hFf hM (fun l' h1' h2' => hg l' (by omega) h2') (fun f' he' hg' => ?_) N 0 f (by omega) (by omega) (fun _ _ _ => rfl) (fun _ _ => rfl) (fun r' hr' => absurd hr' (Nat.not_lt_zero _))
        exact ih (l - 1) f' (by omega) (by omega) (fun a j ha => (he' a j (by omega)).trans (he a j ha)) (fun l hl => (he' _ _ (by omega)).trans (hM l hl)) hg'
  have last : ∀ (n r : Nat) (f : Nat → Nat → Int32), 61 < n + r → r ≤ 61 → eqS (fun a => 295 ≤ a ∧ a ≤ 296) f0 f → (∀ l, l < hn D → f 296 l = bB (pv1 D Y dr v l)) → (∀ r', r' < r → f 295 (61 * hn D + r') = n32 0) → Ok (H_X12_loads_124 N k n (n32 v) (n32 r) (mk σ f)) Q := by
    intro n
    induction n with
    | zero => intro r f h1 h2; omega
    | succ n ih =>
      intro r f h1 h2 he hM hz
      have e37 := (FR_S hF (eqS_mono he (fun a ha => by omega))).1.1
      rw [H_X12_loads_124]
      by_cases hr : 61 ≤ r
      · with_reducible refine ok_ip (by first | assumption | omega | (simp (disch := omega) only [n32_of, neg_n32_1, n32_nat, n32_lt, n32_le, n32_eq, n32_add, n32_sub, n32_mul, n32_m1, m1_n32, n32_addm1, m1_lt, lt_m1, m1_le, le_m1, m1_add1, ofNat_n32, u2_self, u2_n, mk_I, mk_T, ne_eq, not_true_eq_false, not_false_eq_true, ]; first | done | omega)) ?_
        have e1 : aI (mk σ f) 235 37 - 1 = n32 (hn D) + (-1) := by
          rw [mk_I, e37, Int32.sub_eq_add_neg]
        rw [e1]
        refine rows N (hn D) f (by omega) (by omega) he hM (fun l' h1' h2' r' hr' => ?_)
        have el : l' = hn D := by omega
        subst el
        rw [cC_end, hz r' (by omega)]
        rfl
      · with_reducible refine ok_in (by first | assumption | omega | (simp (disch := omega) only [n32_of, neg_n32_1, n32_nat, n32_lt, n32_le, n32_eq, n32_add, n32_sub, n32_mul, n32_m1, m1_n32, n32_addm1, m1_lt, lt_m1, m1_le, le_m1, m1_add1, ofNat_n32, u2_self, u2_n, mk_I, mk_T, ne_eq, not_true_eq_false, not_false_eq_true, ]; first | done | omega)) ?_
        repeat (first | with_reducible refine ok_W ?_ | with_reducible refine ok_cO (by first | assumption | omega | (simp (disch := omega) only [n32_of, neg_n32_1, n32_nat, n32_lt, n32_le, n32_eq, n32_add, n32_sub, n32_mul, n32_m1, m1_n32, n32_addm1, m1_lt, lt_m1, m1_le, le_m1, m1_add1, ofNat_n32, u2_self, u2_n, mk_I, mk_T, ne_eq, not_true_eq_false, not_false_eq_true, e37]; first | done | omega)) ?_ | with_reducible refine ok_ip (by first | assumption | omega | (simp (disch := omega) only [n32_of, neg_n32_1, n32_nat, n32_lt, n32_le, n32_eq, n32_add, n32_sub, n32_mul, n32_m1, m1_n32, n32_addm1, m1_lt, lt_m1, m1_le, le_m1, m1_add1, ofNat_n32, u2_self, u2_n, mk_I, mk_T, ne_eq, not_true_eq_false, not_false_eq_true, e37]; first | done | omega)) ?_ | with_reducible refine ok_in (by first | assumption | omega | (simp (disch := omega) only [n32_of, neg_n32_1, n32_nat, n32_lt, n32_le, n32_eq, n32_add, n32_sub, n32_mul, n32_m1, m1_n32, n32_addm1, m1_lt, lt_m1, m1_le, le_m1, m1_add1, ofNat_n32, u2_self, u2_n, mk_I, mk_T, ne_eq, not_true_eq_false, not_false_eq_true, e37]; first | done | omega)) ?_)
        simp (disch := omega) only [n32_of, neg_n32_1, n32_nat, n32_lt, n32_le, n32_eq, n32_add, n32_sub, n32_mul, n32_m1, m1_n32, n32_addm1, m1_lt, lt_m1, m1_le, le_m1, m1_add1, ofNat_n32, u2_self, u2_n, mk_I, mk_T, e37]
        refine ih (r + 1) _ (by omega) (by omega) (eqS_u2 he (by omega)) (fun l hl => ?_) (fun r' hr' => ?_)
        · rw [u2_n (by omega)]
          exact hM l hl
        · by_cases e : r' = r
          · subst e
            rw [u2_self]
          · rw [u2_n (by omega)]
            exact hz r' (by omega)
  have may : ∀ (n l : Nat) (f : Nat → Nat → Int32), hn D < n + l → l ≤ hn D → eqS (fun a => 295 ≤ a ∧ a ≤ 296) f0 f → (∀ l', l' < l → f 296 l' = bB (pv1 D Y dr v l')) → Ok (H_X12_loads_35 N k n (n32 v) (n32 l) (mk σ f)) Q := by
    intro n
    induction n with
    | zero => intro l f h1 h2; omega
    | succ n ih =>
      intro l f h1 h2 he hM
      have hFf := FR_S hF (eqS_mono he (fun a ha => by omega))
      have e37 := hFf.1.1
      rw [H_X12_loads_35]
      unfold J_X12_loads_114 J_X12_loads_115
      by_cases hl : hn D ≤ l
      · with_reducible refine ok_ip (by first | assumption | omega | (simp (disch := omega) only [n32_of, neg_n32_1, n32_nat, n32_lt, n32_le, n32_eq, n32_add, n32_sub, n32_mul, n32_m1, m1_n32, n32_addm1, m1_lt, lt_m1, m1_le, le_m1, m1_add1, ofNat_n32, u2_self, u2_n, mk_I, mk_T, ne_eq, not_true_eq_false, not_false_eq_true, e37]; first | done | omega)) ?_
        exact last N 0 f (by omega) (by omega) he (fun l' hl' => hM l' (by omega)) (fun r' hr' => absurd hr' (Nat.not_lt_zero _))
      · with_reducible refine ok_in (by first | assumption | omega | (simp (disch := omega) only [n32_of, neg_n32_1, n32_nat, n32_lt, n32_le, n32_eq, n32_add, n32_sub, n32_mul, n32_m1, m1_n32, n32_addm1, m1_lt, lt_m1, m1_le, le_m1, m1_add1, ofNat_n32, u2_self, u2_n, mk_I, mk_T, ne_eq, not_true_eq_false, not_false_eq_true, e37]; first | done | omega)) ?_
        have hl' : l < hn D := by omega
        have dl := hD.2.2.1 l hl'
        have ddr := hd l hl'
        obtain ⟨y0, y2⟩ := hFf.2.2 l hl'
        have e94 := (he 294 l (by omega)).trans (h4 l hl')
        have e62 : f 262 l = n32 (lo D 3 l) := hFf.1.2.2.1 3 l (by omega) hl'
        have put : ∀ b : Bool, b = pv1 D Y dr v l → Ok (cO (¬ (n32 l < 0 ∨ 24 ≤ (n32 l).toNatClampNeg)) (lt (aWI (mk σ f) 296 (n32 l).toNatClampNeg (vp_nar .boolean (bB b))) fun σ38 => H_X12_loads_35 N k n (n32 v) (n32 l + 1) σ38)) Q := by
          intro b hb
          rw [nar_bB]
          repeat (first | with_reducible refine ok_W ?_ | with_reducible refine ok_cO (by first | assumption | omega | (simp (disch := omega) only [n32_of, neg_n32_1, n32_nat, n32_lt, n32_le, n32_eq, n32_add, n32_sub, n32_mul, n32_m1, m1_n32, n32_addm1, m1_lt, lt_m1, m1_le, le_m1, m1_add1, ofNat_n32, u2_self, u2_n, mk_I, mk_T, ne_eq, not_true_eq_false, not_false_eq_true, ]; first | done | omega)) ?_ | with_reducible refine ok_ip (by first | assumption | omega | (simp (disch := omega) only [n32_of, neg_n32_1, n32_nat, n32_lt, n32_le, n32_eq, n32_add, n32_sub, n32_mul, n32_m1, m1_n32, n32_addm1, m1_lt, lt_m1, m1_le, le_m1, m1_add1, ofNat_n32, u2_self, u2_n, mk_I, mk_T, ne_eq, not_true_eq_false, not_false_eq_true, ]; first | done | omega)) ?_ | with_reducible refine ok_in (by first | assumption | omega | (simp (disch := omega) only [n32_of, neg_n32_1, n32_nat, n32_lt, n32_le, n32_eq, n32_add, n32_sub, n32_mul, n32_m1, m1_n32, n32_addm1, m1_lt, lt_m1, m1_le, le_m1, m1_add1, ofNat_n32, u2_self, u2_n, mk_I, mk_T, ne_eq, not_true_eq_false, not_false_eq_true, ]; first | done | omega)) ?_)
          simp (disch := omega) only [n32_of, neg_n32_1, n32_nat, n32_lt, n32_le, n32_eq, n32_add, n32_sub, n32_mul, n32_m1, m1_n32, n32_addm1, m1_lt, lt_m1, m1_le, le_m1, m1_add1, ofNat_n32, u2_self, u2_n, mk_I, mk_T, ]
          refine ih (l + 1) _ (by omega) (by omega) (eqS_u2 he (by omega)) (fun l' hl2 => ?_)
          by_cases e : l' = l
          · subst e
            rw [u2_self, hb]
          · rw [u2_n (by omega)]
            exact hM l' (by omega)
        with_reducible refine ok_cO (by first | assumption | omega | (simp (disch := omega) only [n32_of, neg_n32_1, n32_nat, n32_lt, n32_le, n32_eq, n32_add, n32_sub, n32_mul, n32_m1, m1_n32, n32_addm1, m1_lt, lt_m1, m1_le, le_m1, m1_add1, ofNat_n32, u2_self, u2_n, mk_I, mk_T, ne_eq, not_true_eq_false, not_false_eq_true, ]; first | done | omega)) ?_
        have a94 : aI (mk σ f) 294 (n32 l).toNatClampNeg = oI (on D Y dr v l) := by simp (disch := omega) only [n32_of, neg_n32_1, n32_nat, n32_lt, n32_le, n32_eq, n32_add, n32_sub, n32_mul, n32_m1, m1_n32, n32_addm1, m1_lt, lt_m1, m1_le, le_m1, m1_add1, ofNat_n32, u2_self, u2_n, mk_I, mk_T, e94]
        have a87 : aI (mk σ f) 287 (n32 l).toNatClampNeg = oI (dr l).1 := by simp (disch := omega) only [n32_of, neg_n32_1, n32_nat, n32_lt, n32_le, n32_eq, n32_add, n32_sub, n32_mul, n32_m1, m1_n32, n32_addm1, m1_lt, lt_m1, m1_le, le_m1, m1_add1, ofNat_n32, u2_self, u2_n, mk_I, mk_T, y0]
        rw [a94, a87]
        cases hon : on D Y dr v l with
        | some j =>
          have hj := on_lt D Y dr v l j hon
          with_reducible refine ok_ip ?_ ?_
          · exact oI_ne (by omega)
          refine put false ?_
          unfold pv1
          rw [hon]
          rfl
        | none =>
          with_reducible refine ok_in ?_ ?_
          · exact fun q => q rfl
          with_reducible refine ok_cO (by first | assumption | omega | (simp (disch := omega) only [n32_of, neg_n32_1, n32_nat, n32_lt, n32_le, n32_eq, n32_add, n32_sub, n32_mul, n32_m1, m1_n32, n32_addm1, m1_lt, lt_m1, m1_le, le_m1, m1_add1, ofNat_n32, u2_self, u2_n, mk_I, mk_T, ne_eq, not_true_eq_false, not_false_eq_true, ]; first | done | omega)) ?_
          cases hb : (dr l).1 with
          | none =>
            with_reducible refine ok_ip ?_ ?_
            · rfl
            refine put false ?_
            unfold pv1 cand
            rw [hb, toT_n]
            simp
          | some b =>
            have hbm := ddr.1 b hb
            have htw := (hFf.1.2.2.2.2.1 b hbm).1
            have hdt := (hD.2.2.2.1 b hbm).1
            obtain ⟨z1, z2, z3⟩ := hFf.2.1.2 v hv
            with_reducible refine ok_in ?_ ?_
            · exact oI_ne (by omega)
            with_reducible refine ok_cO (by first | assumption | omega | (simp (disch := omega) only [n32_of, neg_n32_1, n32_nat, n32_lt, n32_le, n32_eq, n32_add, n32_sub, n32_mul, n32_m1, m1_n32, n32_addm1, m1_lt, lt_m1, m1_le, le_m1, m1_add1, ofNat_n32, u2_self, u2_n, mk_I, mk_T, ne_eq, not_true_eq_false, not_false_eq_true, ]; first | done | omega)) ?_
            with_reducible refine ok_cO (by first | assumption | omega | (simp (disch := omega) only [n32_of, neg_n32_1, n32_nat, n32_lt, n32_le, n32_eq, n32_add, n32_sub, n32_mul, n32_m1, m1_n32, n32_addm1, m1_lt, lt_m1, m1_le, le_m1, m1_add1, ofNat_n32, u2_self, u2_n, mk_I, mk_T, ne_eq, not_true_eq_false, not_false_eq_true, oI_s]; first | done | omega)) ?_
            with_reducible refine ok_cO (by first | assumption | omega | (simp (disch := omega) only [n32_of, neg_n32_1, n32_nat, n32_lt, n32_le, n32_eq, n32_add, n32_sub, n32_mul, n32_m1, m1_n32, n32_addm1, m1_lt, lt_m1, m1_le, le_m1, m1_add1, ofNat_n32, u2_self, u2_n, mk_I, mk_T, ne_eq, not_true_eq_false, not_false_eq_true, ]; first | done | omega)) ?_
            by_cases htb : tw D b = yt Y v
            · with_reducible refine ok_in (by first | assumption | omega | (simp (disch := omega) only [n32_of, neg_n32_1, n32_nat, n32_lt, n32_le, n32_eq, n32_add, n32_sub, n32_mul, n32_m1, m1_n32, n32_addm1, m1_lt, lt_m1, m1_le, le_m1, m1_add1, ofNat_n32, u2_self, u2_n, mk_I, mk_T, ne_eq, not_true_eq_false, not_false_eq_true, oI_s, htw, z1]; first | done | omega)) ?_
              with_reducible refine ok_cO (by first | assumption | omega | (simp (disch := omega) only [n32_of, neg_n32_1, n32_nat, n32_lt, n32_le, n32_eq, n32_add, n32_sub, n32_mul, n32_m1, m1_n32, n32_addm1, m1_lt, lt_m1, m1_le, le_m1, m1_add1, ofNat_n32, u2_self, u2_n, mk_I, mk_T, ne_eq, not_true_eq_false, not_false_eq_true, ]; first | done | omega)) ?_
              with_reducible refine ok_cO (by first | assumption | omega | (simp (disch := omega) only [n32_of, neg_n32_1, n32_nat, n32_lt, n32_le, n32_eq, n32_add, n32_sub, n32_mul, n32_m1, m1_n32, n32_addm1, m1_lt, lt_m1, m1_le, le_m1, m1_add1, ofNat_n32, u2_self, u2_n, mk_I, mk_T, ne_eq, not_true_eq_false, not_false_eq_true, ]; first | done | omega)) ?_
              with_reducible refine ok_cO (by first | assumption | omega | (simp (disch := omega) only [n32_of, neg_n32_1, n32_nat, n32_lt, n32_le, n32_eq, n32_add, n32_sub, n32_mul, n32_m1, m1_n32, n32_addm1, m1_lt, lt_m1, m1_le, le_m1, m1_add1, ofNat_n32, u2_self, u2_n, mk_I, mk_T, ne_eq, not_true_eq_false, not_false_eq_true, ]; first | done | omega)) ?_
              by_cases htime : (dr l).2.2.1 + lo D 3 l ≤ yl Y v
              · with_reducible refine ok_in (by first | assumption | omega | (simp (disch := omega) only [n32_of, neg_n32_1, n32_nat, n32_lt, n32_le, n32_eq, n32_add, n32_sub, n32_mul, n32_m1, m1_n32, n32_addm1, m1_lt, lt_m1, m1_le, le_m1, m1_add1, ofNat_n32, u2_self, u2_n, mk_I, mk_T, ne_eq, not_true_eq_false, not_false_eq_true, y2, e62, z3]; first | done | omega)) ?_
                refine put true ?_
                unfold pv1 cand
                rw [hb, hon, toT_s, decide_eq_true htb, decide_eq_true htime]
                rfl
              · with_reducible refine ok_ip (by first | assumption | omega | (simp (disch := omega) only [n32_of, neg_n32_1, n32_nat, n32_lt, n32_le, n32_eq, n32_add, n32_sub, n32_mul, n32_m1, m1_n32, n32_addm1, m1_lt, lt_m1, m1_le, le_m1, m1_add1, ofNat_n32, u2_self, u2_n, mk_I, mk_T, ne_eq, not_true_eq_false, not_false_eq_true, y2, e62, z3]; first | done | omega)) ?_
                refine put false ?_
                unfold pv1 cand
                rw [hb, decide_eq_false htime]
                simp
            · with_reducible refine ok_ip (by first | assumption | omega | (simp (disch := omega) only [n32_of, neg_n32_1, n32_nat, n32_lt, n32_le, n32_eq, n32_add, n32_sub, n32_mul, n32_m1, m1_n32, n32_addm1, m1_lt, lt_m1, m1_le, le_m1, m1_add1, ofNat_n32, u2_self, u2_n, mk_I, mk_T, ne_eq, not_true_eq_false, not_false_eq_true, oI_s, htw, z1]; first | done | omega)) ?_
              refine put false ?_
              unfold pv1 cand
              rw [hb, toT_s, decide_eq_false htb]
              simp
  exact may N 0 f0 (by omega) (by omega) eqS_rfl (fun l' hl' => absurd hl' (Nat.not_lt_zero _))
/-- the reference's loads -/
theorem r_loads {f0 : Nat → Nat → Int32} (hN : 1000 ≤ N) (hD : HOK D) (hd : dOK D dr) (hY : yOK Y) (hF : FR f0 D Y dr) : Ok (F_X12_loads N (mk σ f0)) (fun _ σ' => ∃ f, σ' = mk σ f ∧ eqS scLd f0 f ∧ ∀ l, l < hn D → f 294 l = oI (on D Y dr (yq Y) l)) := by
  have n24 := hD.1
  have q6 := hY.1
  have main : ∀ (n v : Nat) (f : Nat → Nat → Int32), yq Y < n + v → v ≤ yq Y → eqS scLd f0 f → (∀ l, l < hn D → f 294 l = oI (on D Y dr v l)) → Ok (H_X12_loads_25 N n (n32 v) (mk σ f)) (fun _ σ' => ∃ f, σ' = mk σ f ∧ eqS scLd f0 f ∧ ∀ l, l < hn D → f 294 l = oI (on D Y dr (yq Y) l)) := by
    intro n
    induction n with
    | zero => intro v f h1 h2; omega
    | succ n ih =>
      intro v f h1 h2 he h4
      have hFf := FR_S hF he
      have e48 := hFf.2.1.1
      rw [H_X12_loads_25]
      by_cases hv : yq Y ≤ v
      · with_reducible refine ok_ip (by first | assumption | omega | (simp (disch := omega) only [n32_of, neg_n32_1, n32_nat, n32_lt, n32_le, n32_eq, n32_add, n32_sub, n32_mul, n32_m1, m1_n32, n32_addm1, m1_lt, lt_m1, m1_le, le_m1, m1_add1, ofNat_n32, u2_self, u2_n, mk_I, mk_T, ne_eq, not_true_eq_false, not_false_eq_true, e48]; first | done | omega)) ?_
        rw [show v = yq Y by omega] at h4
        exact ok_some ⟨f, rfl, he, h4⟩
      · with_reducible refine ok_in (by first | assumption | omega | (simp (disch := omega) only [n32_of, neg_n32_1, n32_nat, n32_lt, n32_le, n32_eq, n32_add, n32_sub, n32_mul, n32_m1, m1_n32, n32_addm1, m1_lt, lt_m1, m1_le, le_m1, m1_add1, ofNat_n32, u2_self, u2_n, mk_I, mk_T, ne_eq, not_true_eq_false, not_false_eq_true, e48]; first | done | omega)) ?_
        refine r_lorry hN hD hd hY (by omega) hFf h4 (fun f' he' h4' => ?_)
        rw [show n32 v + 1 = n32 (v + 1) from n32_add v 1]
        exact ih (v + 1) f' (by omega) (by omega) (eqS_tr he he') h4'
  have init : ∀ (n l : Nat) (f : Nat → Nat → Int32), hn D < n + l → l ≤ hn D → eqS scLd f0 f → (∀ l', l' < l → f 294 l' = m1) → Ok (H_X12_loads_2 N n (n32 l) (mk σ f)) (fun _ σ' => ∃ f, σ' = mk σ f ∧ eqS scLd f0 f ∧ ∀ l, l < hn D → f 294 l = oI (on D Y dr (yq Y) l)) := by
    intro n
    induction n with
    | zero => intro l f h1 h2; omega
    | succ n ih =>
      intro l f h1 h2 he hz
      have e37 := (FR_S hF he).1.1
      rw [H_X12_loads_2]
      by_cases hl : hn D ≤ l
      · with_reducible refine ok_ip (by first | assumption | omega | (simp (disch := omega) only [n32_of, neg_n32_1, n32_nat, n32_lt, n32_le, n32_eq, n32_add, n32_sub, n32_mul, n32_m1, m1_n32, n32_addm1, m1_lt, lt_m1, m1_le, le_m1, m1_add1, ofNat_n32, u2_self, u2_n, mk_I, mk_T, ne_eq, not_true_eq_false, not_false_eq_true, e37]; first | done | omega)) ?_
        exact main N 0 f (by omega) (by omega) he (fun l' hl' => hz l' (by omega))
      · with_reducible refine ok_in (by first | assumption | omega | (simp (disch := omega) only [n32_of, neg_n32_1, n32_nat, n32_lt, n32_le, n32_eq, n32_add, n32_sub, n32_mul, n32_m1, m1_n32, n32_addm1, m1_lt, lt_m1, m1_le, le_m1, m1_add1, ofNat_n32, u2_self, u2_n, mk_I, mk_T, ne_eq, not_true_eq_false, not_false_eq_true, e37]; first | done | omega)) ?_
        repeat (first | with_reducible refine ok_W ?_ | with_reducible refine ok_cO (by first | assumption | omega | (simp (disch := omega) only [n32_of, neg_n32_1, n32_nat, n32_lt, n32_le, n32_eq, n32_add, n32_sub, n32_mul, n32_m1, m1_n32, n32_addm1, m1_lt, lt_m1, m1_le, le_m1, m1_add1, ofNat_n32, u2_self, u2_n, mk_I, mk_T, ne_eq, not_true_eq_false, not_false_eq_true, ]; first | done | omega)) ?_ | with_reducible refine ok_ip (by first | assumption | omega | (simp (disch := omega) only [n32_of, neg_n32_1, n32_nat, n32_lt, n32_le, n32_eq, n32_add, n32_sub, n32_mul, n32_m1, m1_n32, n32_addm1, m1_lt, lt_m1, m1_le, le_m1, m1_add1, ofNat_n32, u2_self, u2_n, mk_I, mk_T, ne_eq, not_true_eq_false, not_false_eq_true, ]; first | done | omega)) ?_ | with_reducible refine ok_in (by first | assumption | omega | (simp (disch := omega) only [n32_of, neg_n32_1, n32_nat, n32_lt, n32_le, n32_eq, n32_add, n32_sub, n32_mul, n32_m1, m1_n32, n32_addm1, m1_lt, lt_m1, m1_le, le_m1, m1_add1, ofNat_n32, u2_self, u2_n, mk_I, mk_T, ne_eq, not_true_eq_false, not_false_eq_true, ]; first | done | omega)) ?_)
        simp (disch := omega) only [n32_of, neg_n32_1, n32_nat, n32_lt, n32_le, n32_eq, n32_add, n32_sub, n32_mul, n32_m1, m1_n32, n32_addm1, m1_lt, lt_m1, m1_le, le_m1, m1_add1, ofNat_n32, u2_self, u2_n, mk_I, mk_T, ]
        refine ih (l + 1) _ (by omega) (by omega) (eqS_u2 he (by omega)) (fun l' hl' => ?_)
        by_cases e : l' = l
        · subst e
          simp (disch := omega) only [n32_of, neg_n32_1, n32_nat, n32_lt, n32_le, n32_eq, n32_add, n32_sub, n32_mul, n32_m1, m1_n32, n32_addm1, m1_lt, lt_m1, m1_le, le_m1, m1_add1, ofNat_n32, u2_self, u2_n, mk_I, mk_T, ]
        · simp (disch := omega) only [n32_of, neg_n32_1, n32_nat, n32_lt, n32_le, n32_eq, n32_add, n32_sub, n32_mul, n32_m1, m1_n32, n32_addm1, m1_lt, lt_m1, m1_le, le_m1, m1_add1, ofNat_n32, u2_self, u2_n, mk_I, mk_T, ]
          exact hz l' (by omega)
  unfold F_X12_loads
  exact init N 0 f0 (by omega) (by omega) eqS_rfl (fun l' hl' => absurd hl' (Nat.not_lt_zero _))
end RLOAD
