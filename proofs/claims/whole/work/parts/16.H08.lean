theorem on_mem {D : HD} {Y : LY} {dr : Nat → SR} {v l : Nat} : ∀ q, v < q → (on D Y dr q l = some v ↔ l ∈ slv D Y dr v) := by
  intro q
  induction q with
  | zero => intro h; omega
  | succ q ih =>
    intro hv
    rw [on_s]
    by_cases e : v = q
    · subst e
      by_cases hm : l ∈ slv D Y dr v
      · rw [if_pos hm]
        exact ⟨fun _ => hm, fun _ => rfl⟩
      · rw [if_neg hm]
        exact ⟨fun h => absurd (on_lt D Y dr _ _ _ h) (Nat.lt_irrefl _), fun h => absurd h hm⟩
    · have ih := ih (by omega)
      by_cases hm : l ∈ slv D Y dr q
      · rw [if_pos hm]
        have h1 : l ∈ cdl D Y dr q := selR_mem hm
        have hp : pv1 D Y dr q l = true := (cfr_mem h1).2.2
        unfold pv1 at hp
        rw [Bool.and_eq_true] at hp
        have hno : on D Y dr q l = none := Option.isNone_iff_eq_none.mp hp.1
        constructor
        · intro h
          cases h
          exact absurd rfl e
        · intro h
          rw [← ih, hno] at h
          cases h
      · rw [if_neg hm]
        exact ih
theorem cfr_app (p : Nat → Bool) : ∀ a b l, cfr p (a + b) l = cfr p a l ++ cfr p b (l + a)
  | 0, b, l => by rw [Nat.zero_add, cfr, List.nil_append, Nat.add_zero]
  | a + 1, b, l => by
    rw [show a + 1 + b = (a + b) + 1 by omega, cfr, cfr, cfr_app p a b (l + 1), show l + 1 + a = l + (a + 1) by omega]
    split
    · rw [List.cons_append]
    · rfl
theorem slv_cfr (D : HD) (Y : LY) (dr : Nat → SR) (v : Nat) : cfr (fun x => decide (x ∈ slv D Y dr v)) (hn D) 0 = slv D Y dr v := selR_cfr (hn D) 0 (yr Y v)
theorem mid_at {A B T : List Nat} {l : Nat} (h : T = A ++ [l] ++ B) : T[A.length]? = some l := by
  rw [h, List.append_assoc, List.getElem?_append_right (Nat.le_refl _), Nat.sub_self]
  rfl
section OPS8
variable {N : Nat} {σ : aSt} {f : pln} {len : Nat} {D : HD} {Y : LY} {s : Bool} {dr : Nat → SR} {st le : Nat → Nat} {ha : Nat → Nat → Nat} {sp nl : Nat → Nat} {rt : Nat → List Ru} {lw : Nat → Nat}
def ldQ (D : HD) (T : List Nat) (x2 y : Int32) : Prop := (∃ j x, T[j]? = some x ∧ x2 = n32 (10 + j) ∧ y = n32 x) ∨ ((∀ j, j < T.length → x2 ≠ n32 (10 + j)) ∧ y = if x2 = n32 0 then n32 (sumB (lo D 3) T) else if x2 = n32 1 then n32 T.length else m1)
theorem ldQ_eq {T : List Nat} {x2 y z : Int32} (hT : T.length ≤ 24) (h1 : ldQ D T x2 y) (h2 : ldQ D T x2 z) : y = z := by
  rcases h1 with ⟨j, x, a1, a2, a3⟩ | ⟨a1, a2⟩
  · rcases h2 with ⟨j', x', b1, b2, b3⟩ | ⟨b1, b2⟩
    · have l1 : j < T.length := (List.getElem?_eq_some_iff.mp a1).1
      have l2 : j' < T.length := (List.getElem?_eq_some_iff.mp b1).1
      have e := a2.symm.trans b2
      rw [n32_eq (by omega) (by omega)] at e
      have e' : j = j' := by omega
      subst e'
      rw [a1] at b1
      cases b1
      rw [a3, b3]
    · exact absurd a2 (b1 j (List.getElem?_eq_some_iff.mp a1).1)
  · rcases h2 with ⟨j', x', b1, b2, b3⟩ | ⟨b1, b2⟩
    · exact absurd b2 (a1 j' (List.getElem?_eq_some_iff.mp b1).1)
    · rw [a2, b2]
set_option maxHeartbeats 400000 in
theorem op_load (hN : 1000 ≤ N) (x1 x2 : Int32) (hI : IVx σ f len D Y s dr st le ha sp nl rt lw) : Same σ (F_X11_load N x1 x2) (F_X12_load N x1 x2) f := by
  have hI0 := hI
  obtain ⟨t, h2, h3, h4, h5, h6, h7, h8⟩ := hI
  have n24 := h3.1.1
  have m6 := h3.1.2.1
  have q6 := h4.1.1
  have e37 := h3.2.2.1
  have e6 := h4.2.1
  have e48 := h4.2.2.1
  have e8 := h5.2.1
  have e53 := h5.2.2
  have fail : ∀ {R : Option (Int32 × aSt)}, Ok R (fun z σ2 => z = -1 ∧ σ2 = mk σ f) → Ok R (fun z σ2 => (-1 : Int32) = z ∧ ∃ f' W, σ2 = mk σ f' ∧ IV σ f' W) := fun h => ok_mono h (fun z σ2 q => ⟨q.1.symm, by rw [q.2]; exact IV_mk hI0⟩)
  refine same_q (fun Q hQ => ?_)
  unfold F_X11_load J_X11_load_19
  cases s with
  | false =>
    with_reducible refine ok_ipi ?_ ?_
    · exact e8
    refine ok_some (hQ _ _ (fail ?_))
    unfold F_X12_load J_X12_load_19
    refine ok_ifi (fun _ => ok_some ⟨rfl, rfl⟩) (fun _ => ok_ifi (fun _ => ok_some ⟨rfl, rfl⟩) (fun _ => ?_))
    with_reducible refine ok_ini ?_ ?_
    · exact fun q => q e53
    exact ok_some ⟨rfl, rfl⟩
  | true =>
    with_reducible refine ok_ini ?_ ?_
    · rw [mk_I, e8]
      decide
    by_cases hv : ¬ x1 < 0 ∧ x1 < n32 (yq Y)
    · obtain ⟨v, hv2, rfl⟩ := rng_lt (by omega) hv.1 hv.2
      with_reducible refine ok_ini (by first | assumption | omega | (simp (disch := omega) only [n32_of, neg_n32_1, n32_nat, n32_lt, n32_le, n32_eq, n32_add, n32_sub, n32_mul, n32_m1, m1_n32, n32_addm1, m1_lt, lt_m1, m1_le, le_m1, m1_add1, ofNat_n32, u2_self, u2_n, mk_I, mk_T, ne_eq, not_true_eq_false, not_false_eq_true, ]; first | done | omega)) ?_
      with_reducible refine ok_ipi (by first | assumption | omega | (simp (disch := omega) only [n32_of, neg_n32_1, n32_nat, n32_lt, n32_le, n32_eq, n32_add, n32_sub, n32_mul, n32_m1, m1_n32, n32_addm1, m1_lt, lt_m1, m1_le, le_m1, m1_add1, ofNat_n32, u2_self, u2_n, mk_I, mk_T, ne_eq, not_true_eq_false, not_false_eq_true, e6]; first | done | omega)) ?_
      with_reducible refine ok_cOi (by first | assumption | omega | (simp (disch := omega) only [n32_of, neg_n32_1, n32_nat, n32_lt, n32_le, n32_eq, n32_add, n32_sub, n32_mul, n32_m1, m1_n32, n32_addm1, m1_lt, lt_m1, m1_le, le_m1, m1_add1, ofNat_n32, u2_self, u2_n, mk_I, mk_T, ne_eq, not_true_eq_false, not_false_eq_true, ]; first | done | omega)) ?_
      have hT := slv_cfr D Y dr v
      have hTl : (slv D Y dr v).length ≤ 24 := by
        rw [← hT]
        have := cfr_len (fun x => decide (x ∈ slv D Y dr v)) (hn D) 0
        omega
      obtain ⟨b1, b2, b3⟩ := (h7 rfl).2.2 v hv2
      have xs : Ok (F_X4_tell N (223 + 2 * (n32 v).toNatClampNeg) x2 (mk σ f)) (fun y σ' => ldQ D (slv D Y dr v) x2 y ∧ σ' = mk σ f) := by
        rw [n32_nat (by omega)]
        unfold F_X4_tell
        by_cases hj : ∃ j, j < (slv D Y dr v).length ∧ x2 = n32 (10 + j)
        · obtain ⟨j, hj, rfl⟩ := hj
          with_reducible refine ok_ini (by first | assumption | omega | (simp (disch := omega) only [n32_of, neg_n32_1, n32_nat, n32_lt, n32_le, n32_eq, n32_add, n32_sub, n32_mul, n32_m1, m1_n32, n32_addm1, m1_lt, lt_m1, m1_le, le_m1, m1_add1, ofNat_n32, u2_self, u2_n, mk_I, mk_T, ne_eq, not_true_eq_false, not_false_eq_true, ]; first | done | omega)) ?_
          with_reducible refine ok_ini (by first | assumption | omega | (simp (disch := omega) only [n32_of, neg_n32_1, n32_nat, n32_lt, n32_le, n32_eq, n32_add, n32_sub, n32_mul, n32_m1, m1_n32, n32_addm1, m1_lt, lt_m1, m1_le, le_m1, m1_add1, ofNat_n32, u2_self, u2_n, mk_I, mk_T, ne_eq, not_true_eq_false, not_false_eq_true, b2]; first | done | omega)) ?_
          with_reducible refine ok_cOi (by first | assumption | omega | (simp (disch := omega) only [n32_of, neg_n32_1, n32_nat, n32_lt, n32_le, n32_eq, n32_add, n32_sub, n32_mul, n32_m1, m1_n32, n32_addm1, m1_lt, lt_m1, m1_le, le_m1, m1_add1, ofNat_n32, u2_self, u2_n, mk_I, mk_T, ne_eq, not_true_eq_false, not_false_eq_true, ]; first | done | omega)) ?_
          refine ok_some ⟨Or.inl ⟨j, (slv D Y dr v)[j], List.getElem?_eq_getElem hj, rfl, ?_⟩, rfl⟩
          simp (disch := omega) only [n32_of, neg_n32_1, n32_nat, n32_lt, n32_le, n32_eq, n32_add, n32_sub, n32_mul, n32_m1, m1_n32, n32_addm1, m1_lt, lt_m1, m1_le, le_m1, m1_add1, ofNat_n32, u2_self, u2_n, mk_I, mk_T, ]
          exact cel f (by omega) (by omega) (b3 j _ (List.getElem?_eq_getElem hj))
        · have key : Ok (J_X4_tell_27 N (223 + 2 * v) x2 (mk σ f)) (fun y σ' => ldQ D (slv D Y dr v) x2 y ∧ σ' = mk σ f) := by
            unfold J_X4_tell_27
            have hne : ∀ j, j < (slv D Y dr v).length → x2 ≠ n32 (10 + j) := fun j hj2 e => hj ⟨j, hj2, e⟩
            simp (disch := omega) only [n32_of, neg_n32_1, n32_nat, n32_lt, n32_le, n32_eq, n32_add, n32_sub, n32_mul, n32_m1, m1_n32, n32_addm1, m1_lt, lt_m1, m1_le, le_m1, m1_add1, ofNat_n32, u2_self, u2_n, mk_I, mk_T, b1, b2]
            refine ok_ifi (fun d0 => ok_some ⟨Or.inr ⟨hne, ?_⟩, rfl⟩) (fun d0 => ok_ifi (fun d1 => ok_some ⟨Or.inr ⟨hne, ?_⟩, rfl⟩) (fun d1 => ok_some ⟨Or.inr ⟨hne, ?_⟩, rfl⟩))
            · rw [if_pos d0]
            · rw [if_neg d0, if_pos d1]
            · rw [if_neg d0, if_neg d1]
          refine ok_ifi (fun _ => key) (fun d1 => ok_ifi (fun _ => key) (fun d2 => absurd ?_ hj))
          rcases i32_rng x2 with ⟨i, hi, rfl⟩ | hx
          · have d1' : ¬ i < 10 := by
              intro q
              apply d1
              simp (disch := omega) only [n32_of, neg_n32_1, n32_nat, n32_lt, n32_le, n32_eq, n32_add, n32_sub, n32_mul, n32_m1, m1_n32, n32_addm1, m1_lt, lt_m1, m1_le, le_m1, m1_add1, ofNat_n32, u2_self, u2_n, mk_I, mk_T, ]
              exact q
            refine ⟨i - 10, ?_, by rw [show 10 + (i - 10) = i by omega]⟩
            apply Classical.byContradiction
            intro q
            apply d2
            simp (disch := omega) only [n32_of, neg_n32_1, n32_nat, n32_lt, n32_le, n32_eq, n32_add, n32_sub, n32_mul, n32_m1, m1_n32, n32_addm1, m1_lt, lt_m1, m1_le, le_m1, m1_add1, ofNat_n32, u2_self, u2_n, mk_I, mk_T, b2]
            omega
          · exfalso
            apply d1
            rw [Int32.lt_iff_toInt_lt] at hx ⊢
            have hx' : x2.toInt < 0 := hx
            show x2.toInt < 10
            omega
      refine ok_oB (ok_mono xs ?_)
      rintro y _ ⟨hy, rfl⟩
      refine ok_some (hQ _ _ ?_)
      unfold F_X12_load J_X12_load_19
      with_reducible refine ok_ini (by first | assumption | omega | (simp (disch := omega) only [n32_of, neg_n32_1, n32_nat, n32_lt, n32_le, n32_eq, n32_add, n32_sub, n32_mul, n32_m1, m1_n32, n32_addm1, m1_lt, lt_m1, m1_le, le_m1, m1_add1, ofNat_n32, u2_self, u2_n, mk_I, mk_T, ne_eq, not_true_eq_false, not_false_eq_true, ]; first | done | omega)) ?_
      with_reducible refine ok_ini (by first | assumption | omega | (simp (disch := omega) only [n32_of, neg_n32_1, n32_nat, n32_lt, n32_le, n32_eq, n32_add, n32_sub, n32_mul, n32_m1, m1_n32, n32_addm1, m1_lt, lt_m1, m1_le, le_m1, m1_add1, ofNat_n32, u2_self, u2_n, mk_I, mk_T, ne_eq, not_true_eq_false, not_false_eq_true, e48]; first | done | omega)) ?_
      with_reducible refine ok_ipi ?_ ?_
      · rw [mk_I, e53]
        decide
      refine ok_oB (ok_mono (r_loads hN h3.1 (h7 rfl).1 h4.1 (fr_of h3 h4 h7)) ?_)
      rintro _ _ ⟨f', rfl, e', w⟩
      have e37' := (e' 235 37 (by omega)).trans e37
      have rl : ∀ n l, hn D < n + l → l ≤ hn D → (∀ j, j < (cfr (fun x => decide (x ∈ slv D Y dr v)) l 0).length → x2 ≠ n32 (10 + j)) → Ok (H_X12_load_33 N n (n32 v) x2 (n32 (sumB (lo D 3) (cfr (fun x => decide (x ∈ slv D Y dr v)) l 0))) (n32 (cfr (fun x => decide (x ∈ slv D Y dr v)) l 0).length) (n32 l) (mk σ f')) (fun y σ' => ldQ D (slv D Y dr v) x2 y ∧ σ' = mk σ f') := by
        intro n
        induction n with
        | zero => intro l h1 h2; omega
        | succ n ih =>
          intro l h1 h2 hne
          rw [H_X12_load_33]
          unfold J_X12_load_106 J_X12_load_81
          by_cases hl : hn D ≤ l
          · with_reducible refine ok_ipi (by first | assumption | omega | (simp (disch := omega) only [n32_of, neg_n32_1, n32_nat, n32_lt, n32_le, n32_eq, n32_add, n32_sub, n32_mul, n32_m1, m1_n32, n32_addm1, m1_lt, lt_m1, m1_le, le_m1, m1_add1, ofNat_n32, u2_self, u2_n, mk_I, mk_T, ne_eq, not_true_eq_false, not_false_eq_true, e37']; first | done | omega)) ?_
            rw [show l = hn D by omega, hT] at hne ⊢
            simp (disch := omega) only [n32_of, neg_n32_1, n32_nat, n32_lt, n32_le, n32_eq, n32_add, n32_sub, n32_mul, n32_m1, m1_n32, n32_addm1, m1_lt, lt_m1, m1_le, le_m1, m1_add1, ofNat_n32, u2_self, u2_n, mk_I, mk_T, ]
            by_cases d0 : x2 = n32 0
            · refine ok_ini (fun q => q d0) (ok_some ⟨Or.inr ⟨hne, ?_⟩, rfl⟩)
              rw [if_pos d0]
            · refine ok_ipi d0 ?_
              by_cases d1 : x2 = n32 1
              · refine ok_ini (fun q => q d1) (ok_some ⟨Or.inr ⟨hne, ?_⟩, rfl⟩)
                rw [if_neg d0, if_pos d1]
              · refine ok_ipi d1 (ok_some ⟨Or.inr ⟨hne, ?_⟩, rfl⟩)
                rw [if_neg d0, if_neg d1]
          · with_reducible refine ok_ini (by first | assumption | omega | (simp (disch := omega) only [n32_of, neg_n32_1, n32_nat, n32_lt, n32_le, n32_eq, n32_add, n32_sub, n32_mul, n32_m1, m1_n32, n32_addm1, m1_lt, lt_m1, m1_le, le_m1, m1_add1, ofNat_n32, u2_self, u2_n, mk_I, mk_T, ne_eq, not_true_eq_false, not_false_eq_true, e37']; first | done | omega)) ?_
            with_reducible refine ok_cOi (by first | assumption | omega | (simp (disch := omega) only [n32_of, neg_n32_1, n32_nat, n32_lt, n32_le, n32_eq, n32_add, n32_sub, n32_mul, n32_m1, m1_n32, n32_addm1, m1_lt, lt_m1, m1_le, le_m1, m1_add1, ofNat_n32, u2_self, u2_n, mk_I, mk_T, ne_eq, not_true_eq_false, not_false_eq_true, ]; first | done | omega)) ?_
            have w7 := w l (by omega)
            have c3 : f' 262 l = n32 (lo D 3 l) := (e' 262 l (by omega)).trans (h3.2.2.2.2.1 3 l (by omega) (by omega))
            have hsn := cfr_snoc (fun x => decide (x ∈ slv D Y dr v)) l 0
            rw [Nat.zero_add] at hsn
            have ln := cfr_len (fun x => decide (x ∈ slv D Y dr v)) l 0
            by_cases hm : l ∈ slv D Y dr v
            · rw [(on_mem (yq Y) hv2).mpr hm] at w7
              rw [decide_eq_true hm, if_pos rfl] at hsn
              with_reducible refine ok_ipi (by first | assumption | omega | (simp (disch := omega) only [n32_of, neg_n32_1, n32_nat, n32_lt, n32_le, n32_eq, n32_add, n32_sub, n32_mul, n32_m1, m1_n32, n32_addm1, m1_lt, lt_m1, m1_le, le_m1, m1_add1, ofNat_n32, u2_self, u2_n, mk_I, mk_T, ne_eq, not_true_eq_false, not_false_eq_true, w7, oI_s]; first | done | omega)) ?_
              by_cases hx : x2 = n32 (10 + (cfr (fun x => decide (x ∈ slv D Y dr v)) l 0).length)
              · refine ok_ini ?_ ?_
                · simp (disch := omega) only [n32_of, neg_n32_1, n32_nat, n32_lt, n32_le, n32_eq, n32_add, n32_sub, n32_mul, n32_m1, m1_n32, n32_addm1, m1_lt, lt_m1, m1_le, le_m1, m1_add1, ofNat_n32, u2_self, u2_n, mk_I, mk_T, ]
                  exact fun q => q hx
                · refine ok_some ⟨Or.inl ⟨(cfr (fun x => decide (x ∈ slv D Y dr v)) l 0).length, l, ?_, hx, rfl⟩, rfl⟩
                  have ha := cfr_app (fun x => decide (x ∈ slv D Y dr v)) (l + 1) (hn D - (l + 1)) 0
                  rw [show l + 1 + (hn D - (l + 1)) = hn D by omega, hT, hsn] at ha
                  exact mid_at ha
              · refine ok_ipi ?_ ?_
                · simp (disch := omega) only [n32_of, neg_n32_1, n32_nat, n32_lt, n32_le, n32_eq, n32_add, n32_sub, n32_mul, n32_m1, m1_n32, n32_addm1, m1_lt, lt_m1, m1_le, le_m1, m1_add1, ofNat_n32, u2_self, u2_n, mk_I, mk_T, ]
                  exact hx
                · with_reducible refine ok_cOi (by first | assumption | omega | (simp (disch := omega) only [n32_of, neg_n32_1, n32_nat, n32_lt, n32_le, n32_eq, n32_add, n32_sub, n32_mul, n32_m1, m1_n32, n32_addm1, m1_lt, lt_m1, m1_le, le_m1, m1_add1, ofNat_n32, u2_self, u2_n, mk_I, mk_T, ne_eq, not_true_eq_false, not_false_eq_true, ]; first | done | omega)) ?_
                  simp (disch := omega) only [n32_of, neg_n32_1, n32_nat, n32_lt, n32_le, n32_eq, n32_add, n32_sub, n32_mul, n32_m1, m1_n32, n32_addm1, m1_lt, lt_m1, m1_le, le_m1, m1_add1, ofNat_n32, u2_self, u2_n, mk_I, mk_T, c3]
                  have nx := ih (l + 1) (by omega) (by omega) (by
                    rw [hsn, List.length_append]
                    intro j hj
                    by_cases e : j = (cfr (fun x => decide (x ∈ slv D Y dr v)) l 0).length
                    · rw [e]
                      exact hx
                    · refine hne j ?_
                      have : [l].length = 1 := rfl
                      omega)
                  rw [hsn, sumB_app, List.length_append, show sumB (lo D 3) [l] = lo D 3 l from Nat.add_zero _] at nx
                  exact nx
            · rw [decide_eq_false hm, if_neg (fun q => Bool.noConfusion q), List.append_nil] at hsn
              refine ok_ini ?_ ?_
              · simp (disch := omega) only [n32_of, neg_n32_1, n32_nat, n32_lt, n32_le, n32_eq, n32_add, n32_sub, n32_mul, n32_m1, m1_n32, n32_addm1, m1_lt, lt_m1, m1_le, le_m1, m1_add1, ofNat_n32, u2_self, u2_n, mk_I, mk_T, w7]
                intro q
                apply hm
                rw [← on_mem (yq Y) hv2]
                cases ho : on D Y dr (yq Y) l with
                | none =>
                  rw [ho, oI_n, m1_n32 (by omega)] at q
                  exact q.elim
                | some v' =>
                  have := on_lt D Y dr _ _ _ ho
                  rw [ho, oI_s, n32_eq (by omega) (by omega)] at q
                  rw [q]
              · simp (disch := omega) only [n32_of, neg_n32_1, n32_nat, n32_lt, n32_le, n32_eq, n32_add, n32_sub, n32_mul, n32_m1, m1_n32, n32_addm1, m1_lt, lt_m1, m1_le, le_m1, m1_add1, ofNat_n32, u2_self, u2_n, mk_I, mk_T, ]
                have nx := ih (l + 1) (by omega) (by omega) (by rw [hsn]; exact hne)
                rw [hsn] at nx
                exact nx
      refine ok_mono (rl N 0 (by omega) (by omega) (fun j hj => absurd hj (Nat.not_lt_zero _))) ?_
      rintro z _ ⟨hz, rfl⟩
      exact ⟨ldQ_eq hTl hy hz, IV_mk (IVx_cg hI0 (fun a k hk => e' a k (nvLd hk)))⟩
    · have rf : Ok (F_X12_load N x1 x2 (mk σ f)) (fun z σ2 => z = -1 ∧ σ2 = mk σ f) := by
        unfold F_X12_load J_X12_load_19
        rw [mk_I, e48]
        refine ok_ifi (fun _ => ok_some ⟨rfl, rfl⟩) (fun d1 => ok_ifi (fun _ => ok_some ⟨rfl, rfl⟩) (fun d2 => ?_))
        exact absurd ⟨d1, Int32.not_le.mp d2⟩ hv
      have g := hQ _ _ (fail rf)
      rw [mk_I, e6]
      refine ok_ifi (fun _ => ok_some g) (fun d1 => ok_ini (fun d2 => hv ⟨d1, d2⟩) (ok_some g))
end OPS8
