section XCOUNT
variable {N : Nat} {σ : aSt}
/-- rows of fewest lots, from one lot on -/
def rowF (f : Nat → Nat → Int32) (cs : List Nat) (r i : Nat) : Prop := ∀ s, s ≤ r → f (197 + i) s = n32 (few (cs.drop i) s)
theorem x_count {cs : List Nat} {r : Nat} {f0 : Nat → Nat → Int32} (hN : 1000 ≤ N) (hk : cs.length ≤ 24) (hr : r ≤ 60) (hb : ∀ c ∈ cs, 1 ≤ c ∧ c ≤ 20) (hc : f0 193 2 = n32 cs.length) (h5 : rowL f0 195 cs) : Ok (F_X3_countFewest N (n32 r) (mk σ f0)) (fun _ σ' => ∃ f, σ' = mk σ f ∧ eqS (fun a => 197 ≤ a ∧ a ≤ 221) f0 f ∧ ∀ i, i ≤ cs.length → rowF f cs r i) := by
  -- a row
  have inner : ∀ (i : Nat) (k42 : Int32 → Int32 → aSt → Option (Unit × aSt)) (Q : Unit → aSt → Prop) (f1 : Nat → Nat → Int32), i < cs.length → eqS (fun a => 197 ≤ a ∧ a ≤ 221) f0 f1 → (∀ i', i < i' → i' ≤ cs.length → rowF f1 cs r i') → (∀ f, eqS (fun a => 197 ≤ a ∧ a ≤ 221) f0 f → (∀ i', i ≤ i' → i' ≤ cs.length → rowF f cs r i') → Ok (k42 (n32 r) (n32 i + (-1)) (mk σ f)) Q) → ∀ (n s : Nat) (f : Nat → Nat → Int32), r + 1 < n + s → s ≤ r + 1 → eqS (fun a => a = 197 + i) f1 f → (∀ s', s' < s → f (197 + i) s' = n32 (few (cs.drop i) s')) → Ok (H_X3_countFewest_48 N k42 n (n32 r) (n32 i) (n32 s) (mk σ f)) Q := by
    intro i k42 Q f1 hi he1 hrow hK n
    induction n with
    | zero => intro s f h1 h2; omega
    | succ n ih =>
      intro s f h1 h2 he hd
      rw [H_X3_countFewest_48]
      unfold J_X3_countFewest_100
      have he0 : eqS (fun a => 197 ≤ a ∧ a ≤ 221) f0 f := eqS_tr he1 (eqS_mono he (fun a ha => by omega))
      by_cases hs : r < s
      · with_reducible refine ok_ip (by first | assumption | omega | (simp (disch := omega) only [n32_of, neg_n32_1, n32_nat, n32_lt, n32_le, n32_eq, n32_add, n32_sub, n32_mul, n32_m1, m1_n32, n32_addm1, m1_lt, lt_m1, m1_le, le_m1, m1_add1, ofNat_n32, u2_self, u2_n, mk_I, mk_T, ne_eq, not_true_eq_false, not_false_eq_true, ]; first | done | omega)) ?_
        refine hK f he0 (fun i' h1' h2' => ?_)
        by_cases e : i' = i
        · subst e
          exact fun s' hs' => hd s' (by omega)
        · exact fun s' hs' => (he _ _ (by omega)).trans (hrow i' (by omega) h2' s' hs')
      · with_reducible refine ok_in (by first | assumption | omega | (simp (disch := omega) only [n32_of, neg_n32_1, n32_nat, n32_lt, n32_le, n32_eq, n32_add, n32_sub, n32_mul, n32_m1, m1_n32, n32_addm1, m1_lt, lt_m1, m1_le, le_m1, m1_add1, ofNat_n32, u2_self, u2_n, mk_I, mk_T, ne_eq, not_true_eq_false, not_false_eq_true, ]; first | done | omega)) ?_
        have hget : cs[i]? = some cs[i] := List.getElem?_eq_getElem hi
        generalize hci : cs[i] = c at hget
        have hcb := hb c (List.mem_of_getElem? hget)
        have hdrop : cs.drop i = c :: cs.drop (i + 1) := by rw [List.drop_eq_getElem_cons hi, hci]
        have e5 : f 195 i = n32 c := (he0 _ _ (by omega)).trans (h5 i c hget)
        have e6 : f (197 + (i + 1)) s = n32 (few (cs.drop (i + 1)) s) := (he _ _ (by omega)).trans (hrow (i + 1) (by omega) (by omega) s (by omega))
        have b1 := few_le (cs.drop (i + 1)) s
        with_reducible refine ok_cO (by first | assumption | omega | (simp (disch := omega) only [n32_of, neg_n32_1, n32_nat, n32_lt, n32_le, n32_eq, n32_add, n32_sub, n32_mul, n32_m1, m1_n32, n32_addm1, m1_lt, lt_m1, m1_le, le_m1, m1_add1, ofNat_n32, u2_self, u2_n, mk_I, mk_T, ne_eq, not_true_eq_false, not_false_eq_true, ]; first | done | omega)) ?_
        with_reducible refine ok_cO (by first | assumption | omega | (simp (disch := omega) only [n32_of, neg_n32_1, n32_nat, n32_lt, n32_le, n32_eq, n32_add, n32_sub, n32_mul, n32_m1, m1_n32, n32_addm1, m1_lt, lt_m1, m1_le, le_m1, m1_add1, ofNat_n32, u2_self, u2_n, mk_I, mk_T, ne_eq, not_true_eq_false, not_false_eq_true, ]; first | done | omega)) ?_
        with_reducible refine ok_cO (by first | assumption | omega | (simp (disch := omega) only [n32_of, neg_n32_1, n32_nat, n32_lt, n32_le, n32_eq, n32_add, n32_sub, n32_mul, n32_m1, m1_n32, n32_addm1, m1_lt, lt_m1, m1_le, le_m1, m1_add1, ofNat_n32, u2_self, u2_n, mk_I, mk_T, ne_eq, not_true_eq_false, not_false_eq_true, ]; first | done | omega)) ?_
        have fin : ∀ x : Nat, x ≤ 2000 → min (few (cs.drop (i + 1)) s) x = few (cs.drop i) s → Ok (cO (¬ (n32 i < 0 ∨ 25 ≤ (n32 i).toNatClampNeg)) (oB (F_J9_min_7cf53 N (n32 (few (cs.drop (i + 1)) s)) (n32 x) (mk σ f)) fun y2 σ3 => cO (¬ (n32 s < 0 ∨ 61 ≤ (n32 s).toNatClampNeg)) (lt (aWI σ3 (197 + (n32 i).toNatClampNeg) (n32 s).toNatClampNeg y2) fun σ8 => H_X3_countFewest_48 N k42 n (n32 r) (n32 i) (n32 s + 1) σ8))) Q := by
          intro x hx hmin
          with_reducible refine ok_cO (by first | assumption | omega | (simp (disch := omega) only [n32_of, neg_n32_1, n32_nat, n32_lt, n32_le, n32_eq, n32_add, n32_sub, n32_mul, n32_m1, m1_n32, n32_addm1, m1_lt, lt_m1, m1_le, le_m1, m1_add1, ofNat_n32, u2_self, u2_n, mk_I, mk_T, ne_eq, not_true_eq_false, not_false_eq_true, ]; first | done | omega)) ?_
          rw [s_min, oB_s]
          have emin : (if n32 x < n32 (few (cs.drop (i + 1)) s) then n32 x else n32 (few (cs.drop (i + 1)) s)) = n32 (few (cs.drop i) s) := by
            rw [← hmin]
            by_cases hlt : x < few (cs.drop (i + 1)) s
            · rw [if_pos (by first | assumption | omega | (simp (disch := omega) only [n32_of, neg_n32_1, n32_nat, n32_lt, n32_le, n32_eq, n32_add, n32_sub, n32_mul, n32_m1, m1_n32, n32_addm1, m1_lt, lt_m1, m1_le, le_m1, m1_add1, ofNat_n32, u2_self, u2_n, mk_I, mk_T, ne_eq, not_true_eq_false, not_false_eq_true, ]; first | done | omega)), Nat.min_eq_right (by omega)]
            · rw [if_neg (by first | assumption | omega | (simp (disch := omega) only [n32_of, neg_n32_1, n32_nat, n32_lt, n32_le, n32_eq, n32_add, n32_sub, n32_mul, n32_m1, m1_n32, n32_addm1, m1_lt, lt_m1, m1_le, le_m1, m1_add1, ofNat_n32, u2_self, u2_n, mk_I, mk_T, ne_eq, not_true_eq_false, not_false_eq_true, ]; first | done | omega)), Nat.min_eq_left (by omega)]
          rw [emin]
          repeat (first | with_reducible refine ok_W ?_ | with_reducible refine ok_cO (by first | assumption | omega | (simp (disch := omega) only [n32_of, neg_n32_1, n32_nat, n32_lt, n32_le, n32_eq, n32_add, n32_sub, n32_mul, n32_m1, m1_n32, n32_addm1, m1_lt, lt_m1, m1_le, le_m1, m1_add1, ofNat_n32, u2_self, u2_n, mk_I, mk_T, ne_eq, not_true_eq_false, not_false_eq_true, ]; first | done | omega)) ?_ | with_reducible refine ok_ip (by first | assumption | omega | (simp (disch := omega) only [n32_of, neg_n32_1, n32_nat, n32_lt, n32_le, n32_eq, n32_add, n32_sub, n32_mul, n32_m1, m1_n32, n32_addm1, m1_lt, lt_m1, m1_le, le_m1, m1_add1, ofNat_n32, u2_self, u2_n, mk_I, mk_T, ne_eq, not_true_eq_false, not_false_eq_true, ]; first | done | omega)) ?_ | with_reducible refine ok_in (by first | assumption | omega | (simp (disch := omega) only [n32_of, neg_n32_1, n32_nat, n32_lt, n32_le, n32_eq, n32_add, n32_sub, n32_mul, n32_m1, m1_n32, n32_addm1, m1_lt, lt_m1, m1_le, le_m1, m1_add1, ofNat_n32, u2_self, u2_n, mk_I, mk_T, ne_eq, not_true_eq_false, not_false_eq_true, ]; first | done | omega)) ?_)
          simp (disch := omega) only [n32_of, neg_n32_1, n32_nat, n32_lt, n32_le, n32_eq, n32_add, n32_sub, n32_mul, n32_m1, m1_n32, n32_addm1, m1_lt, lt_m1, m1_le, le_m1, m1_add1, ofNat_n32, u2_self, u2_n, mk_I, mk_T, ]
          refine ih (s + 1) _ (by omega) (by omega) (eqS_u2 he rfl) (fun s' hs' => ?_)
          by_cases e : s' = s
          · subst e
            simp (disch := omega) only [n32_of, neg_n32_1, n32_nat, n32_lt, n32_le, n32_eq, n32_add, n32_sub, n32_mul, n32_m1, m1_n32, n32_addm1, m1_lt, lt_m1, m1_le, le_m1, m1_add1, ofNat_n32, u2_self, u2_n, mk_I, mk_T, ]
          · simp (disch := omega) only [n32_of, neg_n32_1, n32_nat, n32_lt, n32_le, n32_eq, n32_add, n32_sub, n32_mul, n32_m1, m1_n32, n32_addm1, m1_lt, lt_m1, m1_le, le_m1, m1_add1, ofNat_n32, u2_self, u2_n, mk_I, mk_T, ]
            exact hd s' (by omega)
        by_cases hcs : c ≤ s
        · with_reducible refine ok_in (by first | assumption | omega | (simp (disch := omega) only [n32_of, neg_n32_1, n32_nat, n32_lt, n32_le, n32_eq, n32_add, n32_sub, n32_mul, n32_m1, m1_n32, n32_addm1, m1_lt, lt_m1, m1_le, le_m1, m1_add1, ofNat_n32, u2_self, u2_n, mk_I, mk_T, ne_eq, not_true_eq_false, not_false_eq_true, e5]; first | done | omega)) ?_
          have e7 : f (197 + (i + 1)) (s - c) = n32 (few (cs.drop (i + 1)) (s - c)) := (he _ _ (by omega)).trans (hrow (i + 1) (by omega) (by omega) (s - c) (by omega))
          have b2 := few_le (cs.drop (i + 1)) (s - c)
          with_reducible refine ok_cO (by first | assumption | omega | (simp (disch := omega) only [n32_of, neg_n32_1, n32_nat, n32_lt, n32_le, n32_eq, n32_add, n32_sub, n32_mul, n32_m1, m1_n32, n32_addm1, m1_lt, lt_m1, m1_le, le_m1, m1_add1, ofNat_n32, u2_self, u2_n, mk_I, mk_T, ne_eq, not_true_eq_false, not_false_eq_true, ]; first | done | omega)) ?_
          with_reducible refine ok_cO (by first | assumption | omega | (simp (disch := omega) only [n32_of, neg_n32_1, n32_nat, n32_lt, n32_le, n32_eq, n32_add, n32_sub, n32_mul, n32_m1, m1_n32, n32_addm1, m1_lt, lt_m1, m1_le, le_m1, m1_add1, ofNat_n32, u2_self, u2_n, mk_I, mk_T, ne_eq, not_true_eq_false, not_false_eq_true, ]; first | done | omega)) ?_
          with_reducible refine ok_cO (by first | assumption | omega | (simp (disch := omega) only [n32_of, neg_n32_1, n32_nat, n32_lt, n32_le, n32_eq, n32_add, n32_sub, n32_mul, n32_m1, m1_n32, n32_addm1, m1_lt, lt_m1, m1_le, le_m1, m1_add1, ofNat_n32, u2_self, u2_n, mk_I, mk_T, ne_eq, not_true_eq_false, not_false_eq_true, e5]; first | done | omega)) ?_
          have := fin (few (cs.drop (i + 1)) (s - c) + 1) (by omega) (by rw [hdrop, few, if_pos hcs])
          have ea : aI (mk σ f) (197 + (n32 i + 1).toNatClampNeg) (n32 s).toNatClampNeg = n32 (few (cs.drop (i + 1)) s) := by simp (disch := omega) only [n32_of, neg_n32_1, n32_nat, n32_lt, n32_le, n32_eq, n32_add, n32_sub, n32_mul, n32_m1, m1_n32, n32_addm1, m1_lt, lt_m1, m1_le, le_m1, m1_add1, ofNat_n32, u2_self, u2_n, mk_I, mk_T, e6]
          have eb : aI (mk σ f) (197 + (n32 i + 1).toNatClampNeg) (n32 s - aI (mk σ f) 195 (n32 i).toNatClampNeg).toNatClampNeg + 1 = n32 (few (cs.drop (i + 1)) (s - c) + 1) := by simp (disch := omega) only [n32_of, neg_n32_1, n32_nat, n32_lt, n32_le, n32_eq, n32_add, n32_sub, n32_mul, n32_m1, m1_n32, n32_addm1, m1_lt, lt_m1, m1_le, le_m1, m1_add1, ofNat_n32, u2_self, u2_n, mk_I, mk_T, e5, e7]
          rw [ea, eb]
          exact this
        · with_reducible refine ok_ip (by first | assumption | omega | (simp (disch := omega) only [n32_of, neg_n32_1, n32_nat, n32_lt, n32_le, n32_eq, n32_add, n32_sub, n32_mul, n32_m1, m1_n32, n32_addm1, m1_lt, lt_m1, m1_le, le_m1, m1_add1, ofNat_n32, u2_self, u2_n, mk_I, mk_T, ne_eq, not_true_eq_false, not_false_eq_true, e5]; first | done | omega)) ?_
          have ea : aI (mk σ f) (197 + (n32 i + 1).toNatClampNeg) (n32 s).toNatClampNeg = n32 (few (cs.drop (i + 1)) s) := by simp (disch := omega) only [n32_of, neg_n32_1, n32_nat, n32_lt, n32_le, n32_eq, n32_add, n32_sub, n32_mul, n32_m1, m1_n32, n32_addm1, m1_lt, lt_m1, m1_le, le_m1, m1_add1, ofNat_n32, u2_self, u2_n, mk_I, mk_T, e6]
          rw [ea]
          exact fin 1000 (by omega) (by rw [hdrop, few, if_neg hcs])
  -- all rows
  have rows : ∀ (n i : Nat) (f : Nat → Nat → Int32), i < n → i ≤ cs.length → eqS (fun a => 197 ≤ a ∧ a ≤ 221) f0 f → (∀ i', i ≤ i' → i' ≤ cs.length → rowF f cs r i') → Ok (H_X3_countFewest_42 N n (n32 r) (n32 i + (-1)) (mk σ f)) (fun _ σ' => ∃ f, σ' = mk σ f ∧ eqS (fun a => 197 ≤ a ∧ a ≤ 221) f0 f ∧ ∀ i, i ≤ cs.length → rowF f cs r i) := by
    intro n
    induction n with
    | zero => intro i f h1 h2; omega
    | succ n ih =>
      intro i f h1 h2 he hrow
      rw [H_X3_countFewest_42]
      by_cases h0 : i = 0
      · subst h0
        with_reducible refine ok_ip ?_ ?_
        · decide
        exact ok_some ⟨f, rfl, he, fun i hi => hrow i (by omega) hi⟩
      · have e1 : n32 i + (-1) = n32 (i - 1) := n32_addm1 (by omega)
        rw [e1]
        with_reducible refine ok_in (by first | assumption | omega | (simp (disch := omega) only [n32_of, neg_n32_1, n32_nat, n32_lt, n32_le, n32_eq, n32_add, n32_sub, n32_mul, n32_m1, m1_n32, n32_addm1, m1_lt, lt_m1, m1_le, le_m1, m1_add1, ofNat_n32, u2_self, u2_n, mk_I, mk_T, ne_eq, not_true_eq_false, not_false_eq_true, ]; first | done | omega)) ?_
        refine inner (i - 1) _ _ f (by omega) he (fun i' h1' h2' => hrow i' (by omega) h2') (fun f' he' hrow' => ?_) N 0 f (by omega) (by omega) eqS_rfl (fun s' hs' => absurd hs' (Nat.not_lt_zero _))
        exact ih (i - 1) f' (by omega) (by omega) he' hrow'
  have first : ∀ (n s : Nat) (f : Nat → Nat → Int32), r + 1 < n + s → s ≤ r + 1 → eqS (fun a => 197 ≤ a ∧ a ≤ 221) f0 f → (∀ s', s' < s → f (197 + cs.length) s' = n32 (few [] s')) → Ok (H_X3_countFewest_2 N n (n32 r) (n32 s) (mk σ f)) (fun _ σ' => ∃ f, σ' = mk σ f ∧ eqS (fun a => 197 ≤ a ∧ a ≤ 221) f0 f ∧ ∀ i, i ≤ cs.length → rowF f cs r i) := by
    intro n
    induction n with
    | zero => intro s f h1 h2; omega
    | succ n ih =>
      intro s f h1 h2 he hd
      have hcf : f 193 2 = n32 cs.length := (he _ _ (by omega)).trans hc
      rw [H_X3_countFewest_2]
      unfold J_X3_countFewest_28
      by_cases hs : r < s
      · with_reducible refine ok_ip (by first | assumption | omega | (simp (disch := omega) only [n32_of, neg_n32_1, n32_nat, n32_lt, n32_le, n32_eq, n32_add, n32_sub, n32_mul, n32_m1, m1_n32, n32_addm1, m1_lt, lt_m1, m1_le, le_m1, m1_add1, ofNat_n32, u2_self, u2_n, mk_I, mk_T, ne_eq, not_true_eq_false, not_false_eq_true, ]; first | done | omega)) ?_
        have e1 : aI (mk σ f) 193 2 - 1 = n32 cs.length + (-1) := by
          rw [mk_I, hcf, Int32.sub_eq_add_neg]
        rw [e1]
        refine rows N cs.length f (by omega) (by omega) he (fun i' h1' h2' => ?_)
        have : i' = cs.length := by omega
        subst this
        intro s' hs'
        rw [List.drop_length]
        exact hd s' (by omega)
      · with_reducible refine ok_in (by first | assumption | omega | (simp (disch := omega) only [n32_of, neg_n32_1, n32_nat, n32_lt, n32_le, n32_eq, n32_add, n32_sub, n32_mul, n32_m1, m1_n32, n32_addm1, m1_lt, lt_m1, m1_le, le_m1, m1_add1, ofNat_n32, u2_self, u2_n, mk_I, mk_T, ne_eq, not_true_eq_false, not_false_eq_true, ]; first | done | omega)) ?_
        with_reducible refine ok_cO (by first | assumption | omega | (simp (disch := omega) only [n32_of, neg_n32_1, n32_nat, n32_lt, n32_le, n32_eq, n32_add, n32_sub, n32_mul, n32_m1, m1_n32, n32_addm1, m1_lt, lt_m1, m1_le, le_m1, m1_add1, ofNat_n32, u2_self, u2_n, mk_I, mk_T, ne_eq, not_true_eq_false, not_false_eq_true, hcf]; first | done | omega)) ?_
        have step : ∀ x : Nat, x = few [] s → Ok (H_X3_countFewest_2 N n (n32 r) (n32 (s + 1)) (mk σ (u2 f (197 + cs.length) s (n32 x)))) (fun _ σ' => ∃ f, σ' = mk σ f ∧ eqS (fun a => 197 ≤ a ∧ a ≤ 221) f0 f ∧ ∀ i, i ≤ cs.length → rowF f cs r i) := by
          intro x hx
          refine ih (s + 1) _ (by omega) (by omega) (eqS_u2 he (by omega)) (fun s' hs' => ?_)
          by_cases e : s' = s
          · subst e
            rw [u2_self, hx]
          · rw [u2_n (by omega)]
            exact hd s' (by omega)
        by_cases h0 : s = 0
        · with_reducible refine ok_in (by first | assumption | omega | (simp (disch := omega) only [n32_of, neg_n32_1, n32_nat, n32_lt, n32_le, n32_eq, n32_add, n32_sub, n32_mul, n32_m1, m1_n32, n32_addm1, m1_lt, lt_m1, m1_le, le_m1, m1_add1, ofNat_n32, u2_self, u2_n, mk_I, mk_T, ne_eq, not_true_eq_false, not_false_eq_true, ]; first | done | omega)) ?_
          repeat (first | with_reducible refine ok_W ?_ | with_reducible refine ok_cO (by first | assumption | omega | (simp (disch := omega) only [n32_of, neg_n32_1, n32_nat, n32_lt, n32_le, n32_eq, n32_add, n32_sub, n32_mul, n32_m1, m1_n32, n32_addm1, m1_lt, lt_m1, m1_le, le_m1, m1_add1, ofNat_n32, u2_self, u2_n, mk_I, mk_T, ne_eq, not_true_eq_false, not_false_eq_true, hcf]; first | done | omega)) ?_ | with_reducible refine ok_ip (by first | assumption | omega | (simp (disch := omega) only [n32_of, neg_n32_1, n32_nat, n32_lt, n32_le, n32_eq, n32_add, n32_sub, n32_mul, n32_m1, m1_n32, n32_addm1, m1_lt, lt_m1, m1_le, le_m1, m1_add1, ofNat_n32, u2_self, u2_n, mk_I, mk_T, ne_eq, not_true_eq_false, not_false_eq_true, hcf]; first | done | omega)) ?_ | with_reducible refine ok_in (by first | assumption | omega | (simp (disch := omega) only [n32_of, neg_n32_1, n32_nat, n32_lt, n32_le, n32_eq, n32_add, n32_sub, n32_mul, n32_m1, m1_n32, n32_addm1, m1_lt, lt_m1, m1_le, le_m1, m1_add1, ofNat_n32, u2_self, u2_n, mk_I, mk_T, ne_eq, not_true_eq_false, not_false_eq_true, hcf]; first | done | omega)) ?_)
          simp (disch := omega) only [n32_of, neg_n32_1, n32_nat, n32_lt, n32_le, n32_eq, n32_add, n32_sub, n32_mul, n32_m1, m1_n32, n32_addm1, m1_lt, lt_m1, m1_le, le_m1, m1_add1, ofNat_n32, u2_self, u2_n, mk_I, mk_T, hcf]
          exact step 0 (by rw [few, if_pos h0])
        · with_reducible refine ok_ip (by first | assumption | omega | (simp (disch := omega) only [n32_of, neg_n32_1, n32_nat, n32_lt, n32_le, n32_eq, n32_add, n32_sub, n32_mul, n32_m1, m1_n32, n32_addm1, m1_lt, lt_m1, m1_le, le_m1, m1_add1, ofNat_n32, u2_self, u2_n, mk_I, mk_T, ne_eq, not_true_eq_false, not_false_eq_true, ]; first | done | omega)) ?_
          repeat (first | with_reducible refine ok_W ?_ | with_reducible refine ok_cO (by first | assumption | omega | (simp (disch := omega) only [n32_of, neg_n32_1, n32_nat, n32_lt, n32_le, n32_eq, n32_add, n32_sub, n32_mul, n32_m1, m1_n32, n32_addm1, m1_lt, lt_m1, m1_le, le_m1, m1_add1, ofNat_n32, u2_self, u2_n, mk_I, mk_T, ne_eq, not_true_eq_false, not_false_eq_true, hcf]; first | done | omega)) ?_ | with_reducible refine ok_ip (by first | assumption | omega | (simp (disch := omega) only [n32_of, neg_n32_1, n32_nat, n32_lt, n32_le, n32_eq, n32_add, n32_sub, n32_mul, n32_m1, m1_n32, n32_addm1, m1_lt, lt_m1, m1_le, le_m1, m1_add1, ofNat_n32, u2_self, u2_n, mk_I, mk_T, ne_eq, not_true_eq_false, not_false_eq_true, hcf]; first | done | omega)) ?_ | with_reducible refine ok_in (by first | assumption | omega | (simp (disch := omega) only [n32_of, neg_n32_1, n32_nat, n32_lt, n32_le, n32_eq, n32_add, n32_sub, n32_mul, n32_m1, m1_n32, n32_addm1, m1_lt, lt_m1, m1_le, le_m1, m1_add1, ofNat_n32, u2_self, u2_n, mk_I, mk_T, ne_eq, not_true_eq_false, not_false_eq_true, hcf]; first | done | omega)) ?_)
          simp (disch := omega) only [n32_of, neg_n32_1, n32_nat, n32_lt, n32_le, n32_eq, n32_add, n32_sub, n32_mul, n32_m1, m1_n32, n32_addm1, m1_lt, lt_m1, m1_le, le_m1, m1_add1, ofNat_n32, u2_self, u2_n, mk_I, mk_T, hcf]
          exact step 1000 (by rw [few, if_neg h0])
  unfold F_X3_countFewest
  exact first N 0 f0 (by omega) (by omega) eqS_rfl (fun s' hs' => absurd hs' (Nat.not_lt_zero _))
theorem x_most {cs : List Nat} {r : Nat} {f : Nat → Nat → Int32} (hN : 1000 ≤ N) (hr : r ≤ 60) (hrow : rowF f cs r 0) : Ok (F_X3_mostBoxes N (n32 r) (mk σ f)) (fun y σ' => σ' = mk σ f ∧ y = n32 (mst cs r)) := by
  unfold F_X3_mostBoxes
  have loop : ∀ (n s : Nat), r + 1 < n + s → 1 ≤ s → s ≤ r + 1 → Ok (H_X3_mostBoxes_4 N n (n32 r) (n32 (mst cs (s - 1))) (n32 s) (mk σ f)) (fun y σ' => σ' = mk σ f ∧ y = n32 (mst cs r)) := by
    intro n
    induction n with
    | zero => intro s h1 h2 h3; omega
    | succ n ih =>
      intro s h1 h2 h3
      rw [H_X3_mostBoxes_4]
      unfold J_X3_mostBoxes_25
      by_cases hs : r < s
      · with_reducible refine ok_ip (by first | assumption | omega | (simp (disch := omega) only [n32_of, neg_n32_1, n32_nat, n32_lt, n32_le, n32_eq, n32_add, n32_sub, n32_mul, n32_m1, m1_n32, n32_addm1, m1_lt, lt_m1, m1_le, le_m1, m1_add1, ofNat_n32, u2_self, u2_n, mk_I, mk_T, ne_eq, not_true_eq_false, not_false_eq_true, ]; first | done | omega)) ?_
        rw [show s - 1 = r by omega]
        exact ok_some ⟨rfl, rfl⟩
      · with_reducible refine ok_in (by first | assumption | omega | (simp (disch := omega) only [n32_of, neg_n32_1, n32_nat, n32_lt, n32_le, n32_eq, n32_add, n32_sub, n32_mul, n32_m1, m1_n32, n32_addm1, m1_lt, lt_m1, m1_le, le_m1, m1_add1, ofNat_n32, u2_self, u2_n, mk_I, mk_T, ne_eq, not_true_eq_false, not_false_eq_true, ]; first | done | omega)) ?_
        with_reducible refine ok_cO (by first | assumption | omega | (simp (disch := omega) only [n32_of, neg_n32_1, n32_nat, n32_lt, n32_le, n32_eq, n32_add, n32_sub, n32_mul, n32_m1, m1_n32, n32_addm1, m1_lt, lt_m1, m1_le, le_m1, m1_add1, ofNat_n32, u2_self, u2_n, mk_I, mk_T, ne_eq, not_true_eq_false, not_false_eq_true, ]; first | done | omega)) ?_
        have e0 : f 197 s = n32 (few cs s) := hrow s (by omega)
        have b0 := few_le cs s
        have ih' := ih (s + 1) (by omega) (by omega) (by omega)
        rw [Nat.add_sub_cancel] at ih'
        obtain ⟨s', rfl⟩ : ∃ t, s = t + 1 := ⟨s - 1, by omega⟩
        rw [mst] at ih'
        by_cases hf : few cs (s' + 1) < 1000
        · rw [if_pos hf] at ih'
          with_reducible refine ok_in (by first | assumption | omega | (simp (disch := omega) only [n32_of, neg_n32_1, n32_nat, n32_lt, n32_le, n32_eq, n32_add, n32_sub, n32_mul, n32_m1, m1_n32, n32_addm1, m1_lt, lt_m1, m1_le, le_m1, m1_add1, ofNat_n32, u2_self, u2_n, mk_I, mk_T, ne_eq, not_true_eq_false, not_false_eq_true, e0]; first | done | omega)) ?_
          simp (disch := omega) only [n32_of, neg_n32_1, n32_nat, n32_lt, n32_le, n32_eq, n32_add, n32_sub, n32_mul, n32_m1, m1_n32, n32_addm1, m1_lt, lt_m1, m1_le, le_m1, m1_add1, ofNat_n32, u2_self, u2_n, mk_I, mk_T, ]
          exact ih'
        · rw [if_neg hf] at ih'
          with_reducible refine ok_ip (by first | assumption | omega | (simp (disch := omega) only [n32_of, neg_n32_1, n32_nat, n32_lt, n32_le, n32_eq, n32_add, n32_sub, n32_mul, n32_m1, m1_n32, n32_addm1, m1_lt, lt_m1, m1_le, le_m1, m1_add1, ofNat_n32, u2_self, u2_n, mk_I, mk_T, ne_eq, not_true_eq_false, not_false_eq_true, e0]; first | done | omega)) ?_
          rw [Nat.add_sub_cancel]
          simp (disch := omega) only [n32_of, neg_n32_1, n32_nat, n32_lt, n32_le, n32_eq, n32_add, n32_sub, n32_mul, n32_m1, m1_n32, n32_addm1, m1_lt, lt_m1, m1_le, le_m1, m1_add1, ofNat_n32, u2_self, u2_n, mk_I, mk_T, ]
          exact ih'
  exact loop N 1 (by omega) (by omega) (by omega)
end XCOUNT
