/-! ===== the program's next token ===== -/
theorem t_bl {N c : Nat} {σ : aSt} (h : c < 256) : F_X8_isBlank N (n32 c) σ = some (bI (pBl c), σ) := by
  rw [s_isBlank]
  congr 2
  have e : isBl (n32 c) ↔ pBl c := by
    unfold isBl pBl
    simp (disch := omega) only [n32_of, neg_n32_1, n32_nat, n32_lt, n32_le, n32_eq, n32_add, n32_sub, n32_mul, n32_m1, m1_n32, n32_addm1, m1_lt, lt_m1, m1_le, le_m1, m1_add1, ofNat_n32, u2_self, u2_n, mk_I, mk_T, ]
  unfold bI
  by_cases q : pBl c
  · rw [if_pos (e.mpr q), if_pos q]
  · rw [if_neg (fun h => q (e.mp h)), if_neg q]
theorem t_lt {N c : Nat} {σ : aSt} (h : c < 256) : F_X8_isLetter N (n32 c) σ = some (bI (pLt c), σ) := by
  rw [s_isLetter]
  congr 2
  have e : isLt (n32 c) ↔ pLt c := by
    unfold isLt pLt
    simp (disch := omega) only [n32_of, neg_n32_1, n32_nat, n32_lt, n32_le, n32_eq, n32_add, n32_sub, n32_mul, n32_m1, m1_n32, n32_addm1, m1_lt, lt_m1, m1_le, le_m1, m1_add1, ofNat_n32, u2_self, u2_n, mk_I, mk_T, ]
    omega
  unfold bI
  by_cases q : pLt c
  · rw [if_pos (e.mpr q), if_pos q]
  · rw [if_neg (fun h => q (e.mp h)), if_neg q]
theorem t_dg {N c : Nat} {σ : aSt} (h : c < 256) : F_X8_isDigit N (n32 c) σ = some (bI (pDg c), σ) := by
  rw [s_isDigit]
  congr 2
  have e : isDg (n32 c) ↔ pDg c := by
    unfold isDg pDg
    simp (disch := omega) only [n32_of, neg_n32_1, n32_nat, n32_lt, n32_le, n32_eq, n32_add, n32_sub, n32_mul, n32_m1, m1_n32, n32_addm1, m1_lt, lt_m1, m1_le, le_m1, m1_add1, ofNat_n32, u2_self, u2_n, mk_I, mk_T, ]
    omega
  unfold bI
  by_cases q : pDg c
  · rw [if_pos (e.mpr q), if_pos q]
  · rw [if_neg (fun h => q (e.mp h)), if_neg q]
theorem t_ltR {N c : Nat} {σ : aSt} (h : c < 256) : F_X12_isLetter N (n32 c) σ = some (bI (pLt c), σ) := by
  rw [s_isLetterR]
  exact (s_isLetter N (n32 c) σ).symm.trans (t_lt h)
theorem t_dgR {N c : Nat} {σ : aSt} (h : c < 256) : F_X12_isDigit N (n32 c) σ = some (bI (pDg c), σ) := by
  rw [s_isDigitR]
  exact (s_isDigit N (n32 c) σ).symm.trans (t_dg h)
/-- planes alike but for where the program looks -/
def eq45 (f f' : pln) : Prop := ∀ a k, (a ≠ 1 ∨ (k ≠ 4 ∧ k ≠ 5)) → f' a k = f a k
theorem eq45_rf {f : pln} : eq45 f f := fun _ _ _ => rfl
theorem eq45_tr {f g h : pln} (e1 : eq45 f g) (e2 : eq45 g h) : eq45 f h := fun a k q => (e2 a k q).trans (e1 a k q)
theorem eq45_4 {f : pln} {v : Int32} : eq45 f (u2 f 1 4 v) := fun a k q => u2_n (by omega)
theorem eq45_5 {f : pln} {v : Int32} : eq45 f (u2 f 1 5 v) := fun a k q => u2_n (by omega)
def XBy (b : Nat → Nat) (len : Nat) (f : pln) : Prop := f 1 0 = n32 len ∧ ∀ j, j < len → f 9 j = n32 (b j) ∧ b j < 256
theorem XBy_45 {b : Nat → Nat} {len : Nat} {f f' : pln} (h : XBy b len f) (e : eq45 f f') : XBy b len f' := ⟨(e _ _ (by omega)).trans h.1, fun j hj => ⟨(e _ _ (by omega)).trans (h.2 j hj).1, (h.2 j hj).2⟩⟩
section XL
variable {N len : Nat} {b : Nat → Nat} {σ : aSt}
theorem x_skip (hlen : len ≤ 2000) {Q : Int32 → aSt → Prop} : ∀ (n i : Nat) (f : pln), len - i < n → i ≤ len → XBy b len f → f 1 4 = n32 i → (∀ f', eq45 f f' → f' 1 4 = n32 (skp b len i) → Ok (J_X8_nextToken_39 N (mk σ f')) Q) → Ok (H_X8_nextToken_0 N n (mk σ f)) Q := by
  intro n
  induction n with
  | zero => intro i f h; omega
  | succ n ih =>
    intro i f hn hi hB h4 K
    have h0 := hB.1
    rw [H_X8_nextToken_0]
    by_cases hl : i < len
    · obtain ⟨hbi, hb2⟩ := hB.2 i hl
      with_reducible refine ok_in (by first | assumption | omega | (simp (disch := omega) only [n32_of, neg_n32_1, n32_nat, n32_lt, n32_le, n32_eq, n32_add, n32_sub, n32_mul, n32_m1, m1_n32, n32_addm1, m1_lt, lt_m1, m1_le, le_m1, m1_add1, ofNat_n32, u2_self, u2_n, mk_I, mk_T, ne_eq, not_true_eq_false, not_false_eq_true, h0, h4]; first | done | omega)) ?_
      with_reducible refine ok_cO (by first | assumption | omega | (simp (disch := omega) only [n32_of, neg_n32_1, n32_nat, n32_lt, n32_le, n32_eq, n32_add, n32_sub, n32_mul, n32_m1, m1_n32, n32_addm1, m1_lt, lt_m1, m1_le, le_m1, m1_add1, ofNat_n32, u2_self, u2_n, mk_I, mk_T, ne_eq, not_true_eq_false, not_false_eq_true, h4]; first | done | omega)) ?_
      refine ok_oB (ok_eq (by simp (disch := omega) only [n32_of, neg_n32_1, n32_nat, n32_lt, n32_le, n32_eq, n32_add, n32_sub, n32_mul, n32_m1, m1_n32, n32_addm1, m1_lt, lt_m1, m1_le, le_m1, m1_add1, ofNat_n32, u2_self, u2_n, mk_I, mk_T, h4, hbi]; exact t_bl hb2) (ok_some ?_))
      by_cases hp : pBl (b i)
      · refine ok_in (yz hp) ?_
        repeat (first | with_reducible refine ok_W ?_ | with_reducible refine ok_cO (by first | assumption | omega | (simp (disch := omega) only [n32_of, neg_n32_1, n32_nat, n32_lt, n32_le, n32_eq, n32_add, n32_sub, n32_mul, n32_m1, m1_n32, n32_addm1, m1_lt, lt_m1, m1_le, le_m1, m1_add1, ofNat_n32, u2_self, u2_n, mk_I, mk_T, ne_eq, not_true_eq_false, not_false_eq_true, h4]; first | done | omega)) ?_ | with_reducible refine ok_ip (by first | assumption | omega | (simp (disch := omega) only [n32_of, neg_n32_1, n32_nat, n32_lt, n32_le, n32_eq, n32_add, n32_sub, n32_mul, n32_m1, m1_n32, n32_addm1, m1_lt, lt_m1, m1_le, le_m1, m1_add1, ofNat_n32, u2_self, u2_n, mk_I, mk_T, ne_eq, not_true_eq_false, not_false_eq_true, h4]; first | done | omega)) ?_ | with_reducible refine ok_in (by first | assumption | omega | (simp (disch := omega) only [n32_of, neg_n32_1, n32_nat, n32_lt, n32_le, n32_eq, n32_add, n32_sub, n32_mul, n32_m1, m1_n32, n32_addm1, m1_lt, lt_m1, m1_le, le_m1, m1_add1, ofNat_n32, u2_self, u2_n, mk_I, mk_T, ne_eq, not_true_eq_false, not_false_eq_true, h4]; first | done | omega)) ?_)
        simp (disch := omega) only [n32_of, neg_n32_1, n32_nat, n32_lt, n32_le, n32_eq, n32_add, n32_sub, n32_mul, n32_m1, m1_n32, n32_addm1, m1_lt, lt_m1, m1_le, le_m1, m1_add1, ofNat_n32, u2_self, u2_n, mk_I, mk_T, h4]
        refine ih (i + 1) _ (by omega) (by omega) (XBy_45 hB eq45_4) u2_self (fun f' e e4 => K f' (eq45_tr eq45_4 e) ?_)
        rw [e4]
        unfold skp
        rw [rn_s hl (decide_eq_true hp)]
      · refine ok_ip (nz hp) ?_
        refine K f eq45_rf ?_
        rw [h4]
        unfold skp
        rw [rn_e (Or.inr (decide_eq_false hp))]
    · with_reducible refine ok_ip (by first | assumption | omega | (simp (disch := omega) only [n32_of, neg_n32_1, n32_nat, n32_lt, n32_le, n32_eq, n32_add, n32_sub, n32_mul, n32_m1, m1_n32, n32_addm1, m1_lt, lt_m1, m1_le, le_m1, m1_add1, ofNat_n32, u2_self, u2_n, mk_I, mk_T, ne_eq, not_true_eq_false, not_false_eq_true, h0, h4]; first | done | omega)) ?_
      refine K f eq45_rf ?_
      rw [h4]
      unfold skp
      rw [rn_e (Or.inl (by omega))]
theorem x_lte (hlen : len ≤ 2000) {Q : Int32 → aSt → Prop} : ∀ (n i : Nat) (f : pln), len - i < n → i ≤ len → XBy b len f → f 1 4 = n32 i → (∀ f', eq45 f f' → f' 1 4 = n32 (lte b len i) → f' 1 5 = f 1 5 → Ok (J_X8_wordToken_39 N (mk σ f')) Q) → Ok (H_X8_wordToken_0 N n (mk σ f)) Q := by
  intro n
  induction n with
  | zero => intro i f h; omega
  | succ n ih =>
    intro i f hn hi hB h4 K
    have h0 := hB.1
    rw [H_X8_wordToken_0]
    by_cases hl : i < len
    · obtain ⟨hbi, hb2⟩ := hB.2 i hl
      with_reducible refine ok_in (by first | assumption | omega | (simp (disch := omega) only [n32_of, neg_n32_1, n32_nat, n32_lt, n32_le, n32_eq, n32_add, n32_sub, n32_mul, n32_m1, m1_n32, n32_addm1, m1_lt, lt_m1, m1_le, le_m1, m1_add1, ofNat_n32, u2_self, u2_n, mk_I, mk_T, ne_eq, not_true_eq_false, not_false_eq_true, h0, h4]; first | done | omega)) ?_
      with_reducible refine ok_cO (by first | assumption | omega | (simp (disch := omega) only [n32_of, neg_n32_1, n32_nat, n32_lt, n32_le, n32_eq, n32_add, n32_sub, n32_mul, n32_m1, m1_n32, n32_addm1, m1_lt, lt_m1, m1_le, le_m1, m1_add1, ofNat_n32, u2_self, u2_n, mk_I, mk_T, ne_eq, not_true_eq_false, not_false_eq_true, h4]; first | done | omega)) ?_
      refine ok_oB (ok_eq (by simp (disch := omega) only [n32_of, neg_n32_1, n32_nat, n32_lt, n32_le, n32_eq, n32_add, n32_sub, n32_mul, n32_m1, m1_n32, n32_addm1, m1_lt, lt_m1, m1_le, le_m1, m1_add1, ofNat_n32, u2_self, u2_n, mk_I, mk_T, h4, hbi]; exact t_lt hb2) (ok_some ?_))
      by_cases hp : pLt (b i)
      · refine ok_in (yz hp) ?_
        repeat (first | with_reducible refine ok_W ?_ | with_reducible refine ok_cO (by first | assumption | omega | (simp (disch := omega) only [n32_of, neg_n32_1, n32_nat, n32_lt, n32_le, n32_eq, n32_add, n32_sub, n32_mul, n32_m1, m1_n32, n32_addm1, m1_lt, lt_m1, m1_le, le_m1, m1_add1, ofNat_n32, u2_self, u2_n, mk_I, mk_T, ne_eq, not_true_eq_false, not_false_eq_true, h4]; first | done | omega)) ?_ | with_reducible refine ok_ip (by first | assumption | omega | (simp (disch := omega) only [n32_of, neg_n32_1, n32_nat, n32_lt, n32_le, n32_eq, n32_add, n32_sub, n32_mul, n32_m1, m1_n32, n32_addm1, m1_lt, lt_m1, m1_le, le_m1, m1_add1, ofNat_n32, u2_self, u2_n, mk_I, mk_T, ne_eq, not_true_eq_false, not_false_eq_true, h4]; first | done | omega)) ?_ | with_reducible refine ok_in (by first | assumption | omega | (simp (disch := omega) only [n32_of, neg_n32_1, n32_nat, n32_lt, n32_le, n32_eq, n32_add, n32_sub, n32_mul, n32_m1, m1_n32, n32_addm1, m1_lt, lt_m1, m1_le, le_m1, m1_add1, ofNat_n32, u2_self, u2_n, mk_I, mk_T, ne_eq, not_true_eq_false, not_false_eq_true, h4]; first | done | omega)) ?_)
        simp (disch := omega) only [n32_of, neg_n32_1, n32_nat, n32_lt, n32_le, n32_eq, n32_add, n32_sub, n32_mul, n32_m1, m1_n32, n32_addm1, m1_lt, lt_m1, m1_le, le_m1, m1_add1, ofNat_n32, u2_self, u2_n, mk_I, mk_T, h4]
        refine ih (i + 1) _ (by omega) (by omega) (XBy_45 hB eq45_4) u2_self (fun f' e e4 e5 => K f' (eq45_tr eq45_4 e) ?_ (e5.trans (u2_n (by omega))))
        rw [e4]
        unfold lte
        rw [rn_s hl (decide_eq_true hp)]
      · refine ok_ip (nz hp) ?_
        refine K f eq45_rf ?_ rfl
        rw [h4]
        unfold lte
        rw [rn_e (Or.inr (decide_eq_false hp))]
    · with_reducible refine ok_ip (by first | assumption | omega | (simp (disch := omega) only [n32_of, neg_n32_1, n32_nat, n32_lt, n32_le, n32_eq, n32_add, n32_sub, n32_mul, n32_m1, m1_n32, n32_addm1, m1_lt, lt_m1, m1_le, le_m1, m1_add1, ofNat_n32, u2_self, u2_n, mk_I, mk_T, ne_eq, not_true_eq_false, not_false_eq_true, h0, h4]; first | done | omega)) ?_
      refine K f eq45_rf ?_ rfl
      rw [h4]
      unfold lte
      rw [rn_e (Or.inl (by omega))]
theorem x_dge (hlen : len ≤ 2000) {Q : Int32 → aSt → Prop} (p : Nat) : ∀ (n i : Nat) (f : pln), len - i < n → p ≤ i → i ≤ len → XBy b len f → f 1 4 = n32 i → (∀ f', eq45 f f' → f' 1 4 = n32 (dge b len i) → f' 1 5 = f 1 5 → Ok (J_X8_intToken_59 N (n32 (iv b p (dge b len i - p))) (mk σ f')) Q) → Ok (H_X8_intToken_2 N n (n32 (iv b p (i - p))) (mk σ f)) Q := by
  intro n
  induction n with
  | zero => intro i f h; omega
  | succ n ih =>
    intro i f hn hpi hi hB h4 K
    have h0 := hB.1
    rw [H_X8_intToken_2]
    by_cases hl : i < len
    · obtain ⟨hbi, hb2⟩ := hB.2 i hl
      with_reducible refine ok_in (by first | assumption | omega | (simp (disch := omega) only [n32_of, neg_n32_1, n32_nat, n32_lt, n32_le, n32_eq, n32_add, n32_sub, n32_mul, n32_m1, m1_n32, n32_addm1, m1_lt, lt_m1, m1_le, le_m1, m1_add1, ofNat_n32, u2_self, u2_n, mk_I, mk_T, ne_eq, not_true_eq_false, not_false_eq_true, h0, h4]; first | done | omega)) ?_
      with_reducible refine ok_cO (by first | assumption | omega | (simp (disch := omega) only [n32_of, neg_n32_1, n32_nat, n32_lt, n32_le, n32_eq, n32_add, n32_sub, n32_mul, n32_m1, m1_n32, n32_addm1, m1_lt, lt_m1, m1_le, le_m1, m1_add1, ofNat_n32, u2_self, u2_n, mk_I, mk_T, ne_eq, not_true_eq_false, not_false_eq_true, h4]; first | done | omega)) ?_
      refine ok_oB (ok_eq (by simp (disch := omega) only [n32_of, neg_n32_1, n32_nat, n32_lt, n32_le, n32_eq, n32_add, n32_sub, n32_mul, n32_m1, m1_n32, n32_addm1, m1_lt, lt_m1, m1_le, le_m1, m1_add1, ofNat_n32, u2_self, u2_n, mk_I, mk_T, h4, hbi]; exact t_dg hb2) (ok_some ?_))
      by_cases hp : pDg (b i)
      · refine ok_in (yz hp) ?_
        repeat (first | with_reducible refine ok_W ?_ | with_reducible refine ok_cO (by first | assumption | omega | (simp (disch := omega) only [n32_of, neg_n32_1, n32_nat, n32_lt, n32_le, n32_eq, n32_add, n32_sub, n32_mul, n32_m1, m1_n32, n32_addm1, m1_lt, lt_m1, m1_le, le_m1, m1_add1, ofNat_n32, u2_self, u2_n, mk_I, mk_T, ne_eq, not_true_eq_false, not_false_eq_true, h4]; first | done | omega)) ?_ | with_reducible refine ok_ip (by first | assumption | omega | (simp (disch := omega) only [n32_of, neg_n32_1, n32_nat, n32_lt, n32_le, n32_eq, n32_add, n32_sub, n32_mul, n32_m1, m1_n32, n32_addm1, m1_lt, lt_m1, m1_le, le_m1, m1_add1, ofNat_n32, u2_self, u2_n, mk_I, mk_T, ne_eq, not_true_eq_false, not_false_eq_true, h4]; first | done | omega)) ?_ | with_reducible refine ok_in (by first | assumption | omega | (simp (disch := omega) only [n32_of, neg_n32_1, n32_nat, n32_lt, n32_le, n32_eq, n32_add, n32_sub, n32_mul, n32_m1, m1_n32, n32_addm1, m1_lt, lt_m1, m1_le, le_m1, m1_add1, ofNat_n32, u2_self, u2_n, mk_I, mk_T, ne_eq, not_true_eq_false, not_false_eq_true, h4]; first | done | omega)) ?_)
        simp (disch := omega) only [n32_of, neg_n32_1, n32_nat, n32_lt, n32_le, n32_eq, n32_add, n32_sub, n32_mul, n32_m1, m1_n32, n32_addm1, m1_lt, lt_m1, m1_le, le_m1, m1_add1, ofNat_n32, u2_self, u2_n, mk_I, mk_T, h4, hbi]
        have ev : iv b p (i - p) * 10 + (b i - 48) = iv b p (i + 1 - p) := by
          rw [show i + 1 - p = (i - p) + 1 by omega, iv, show p + (i - p) = i by omega]
        rw [ev]
        refine ih (i + 1) _ (by omega) (by omega) (by omega) (XBy_45 hB eq45_4) u2_self (fun f' e e4 e5 => ?_)
        have ed : dge b len i = dge b len (i + 1) := by
          unfold dge
          rw [rn_s hl (decide_eq_true hp)]
        rw [← ed] at e4 ⊢
        exact K f' (eq45_tr eq45_4 e) e4 (e5.trans (u2_n (by omega)))
      · refine ok_ip (nz hp) ?_
        have ed : dge b len i = i := by
          unfold dge
          rw [rn_e (Or.inr (decide_eq_false hp))]
        have := K f eq45_rf (by rw [h4, ed]) rfl
        rw [ed] at this
        exact this
    · with_reducible refine ok_ip (by first | assumption | omega | (simp (disch := omega) only [n32_of, neg_n32_1, n32_nat, n32_lt, n32_le, n32_eq, n32_add, n32_sub, n32_mul, n32_m1, m1_n32, n32_addm1, m1_lt, lt_m1, m1_le, le_m1, m1_add1, ofNat_n32, u2_self, u2_n, mk_I, mk_T, ne_eq, not_true_eq_false, not_false_eq_true, h0, h4]; first | done | omega)) ?_
      have ed : dge b len i = i := by
        unfold dge
        rw [rn_e (Or.inl (by omega))]
      have := K f eq45_rf (by rw [h4, ed]) rfl
      rw [ed] at this
      exact this
theorem x_charAt {j : Nat} {τ : aSt} (hj : j < 128) : F_J0_charAt_5068e N (n32 j) τ = some (n32 (wch j), τ) := by
  have c0 : ¬ n32 j < 0 := by first | assumption | omega | (simp (disch := omega) only [n32_of, neg_n32_1, n32_nat, n32_lt, n32_le, n32_eq, n32_add, n32_sub, n32_mul, n32_m1, m1_n32, n32_addm1, m1_lt, lt_m1, m1_le, le_m1, m1_add1, ofNat_n32, u2_self, u2_n, mk_I, mk_T, ne_eq, not_true_eq_false, not_false_eq_true, ]; first | done | omega)
  have c1 : n32 j < Int32.ofNat 128 := by
    rw [ofNat_n32, n32_lt (by omega) (by omega)]
    exact hj
  have c2 : ¬ (n32 j < 0 ∨ aBy.length ≤ (n32 j).toNatClampNeg) := by
    rw [aBy_len, n32_nat (by omega)]
    intro q
    rcases q with q | q
    · exact c0 q
    · omega
  obtain ⟨h1, h2⟩ := aBy_w j hj
  have key : ∀ c : Nat, c < 256 → ((((n32 c) &&& 255).toUInt32 % 65536).toInt32 = n32 c ∧ vp_nar .char (n32 c) = n32 c) := by decide +kernel
  obtain ⟨k1, k2⟩ := key (wch j) h2
  unfold F_J0_charAt_5068e F_J0_isLatin1_aae02 J_J0_isLatin1_aae02_18
  rw [cO_t nar_b1, oB_s, if_neg (by decide)]
  unfold F_J1_charAt_3b067 F_J0_checkIndex_df160 F_J3_checkIndex_8e157
  rw [if_neg c0, if_pos c1, oB_s, oB_s, cO_t c2]
  rw [n32_nat (by omega), h1, k1, cO_t k2, oB_s, cO_t k2]
theorem x_length {τ : aSt} : F_J0_length_8abf5 N τ = some (n32 128, τ) := by
  unfold F_J0_length_8abf5 F_J0_coder_7d493 J_J0_coder_7d493_14
  rw [cO_t (by decide), oB_s]
  rfl
theorem x_isWord {p e w : Nat} {f : pln} (hw : w < 16) (h4 : f 1 4 = n32 e) (h5 : f 1 5 = n32 p) (hB : XBy b len f) (hel : e ≤ len) (hlen : len ≤ 2000) (hpe : p ≤ e) : ∀ (n j : Nat), 8 - j < n → j ≤ 8 → Ok (H_X8_isTokenTheWord_7 N n (n32 (8 * w)) (n32 j) (mk σ f)) (fun y σ' => σ' = mk σ f ∧ ((y = 1 ∧ ∀ i, j ≤ i → i < 8 → mtc b p e w i) ∨ (y = 0 ∧ ∃ i, i < 8 ∧ ¬ mtc b p e w i))) := by
  intro n
  induction n with
  | zero => intro j h; omega
  | succ n ih =>
    intro j hn hj
    rw [H_X8_isTokenTheWord_7]
    by_cases h8 : j = 8
    · with_reducible refine ok_ip (by first | assumption | omega | (simp (disch := omega) only [n32_of, neg_n32_1, n32_nat, n32_lt, n32_le, n32_eq, n32_add, n32_sub, n32_mul, n32_m1, m1_n32, n32_addm1, m1_lt, lt_m1, m1_le, le_m1, m1_add1, ofNat_n32, u2_self, u2_n, mk_I, mk_T, ne_eq, not_true_eq_false, not_false_eq_true, ]; first | done | omega)) ?_
      unfold J_X8_isTokenTheWord_76
      rw [cO_t nar_b1]
      exact ok_some ⟨rfl, Or.inl ⟨rfl, fun i a c => by omega⟩⟩
    · with_reducible refine ok_in (by first | assumption | omega | (simp (disch := omega) only [n32_of, neg_n32_1, n32_nat, n32_lt, n32_le, n32_eq, n32_add, n32_sub, n32_mul, n32_m1, m1_n32, n32_addm1, m1_lt, lt_m1, m1_le, le_m1, m1_add1, ofNat_n32, u2_self, u2_n, mk_I, mk_T, ne_eq, not_true_eq_false, not_false_eq_true, ]; first | done | omega)) ?_
      rw [x_length]
      refine ok_oB (ok_some ?_)
      with_reducible refine ok_in (by first | assumption | omega | (simp (disch := omega) only [n32_of, neg_n32_1, n32_nat, n32_lt, n32_le, n32_eq, n32_add, n32_sub, n32_mul, n32_m1, m1_n32, n32_addm1, m1_lt, lt_m1, m1_le, le_m1, m1_add1, ofNat_n32, u2_self, u2_n, mk_I, mk_T, ne_eq, not_true_eq_false, not_false_eq_true, ]; first | done | omega)) ?_
      have fin : ∀ d : Nat, d < 256 → d = (if p + j < e then b (p + j) else 32) → Ok (J_X8_isTokenTheWord_53 N (H_X8_isTokenTheWord_7 N n) (n32 (8 * w)) (n32 j) (n32 d) (mk σ f)) (fun y σ' => σ' = mk σ f ∧ ((y = 1 ∧ ∀ i, j ≤ i → i < 8 → mtc b p e w i) ∨ (y = 0 ∧ ∃ i, i < 8 ∧ ¬ mtc b p e w i))) := by
        intro d hd ed
        unfold J_X8_isTokenTheWord_53
        rw [n32_add, x_charAt (by omega)]
        refine ok_oB (ok_some ?_)
        have hwc := (aBy_w (8 * w + j) (by omega)).2
        by_cases hm : wch (8 * w + j) = d
        · with_reducible refine ok_ip (by first | assumption | omega | (simp (disch := omega) only [n32_of, neg_n32_1, n32_nat, n32_lt, n32_le, n32_eq, n32_add, n32_sub, n32_mul, n32_m1, m1_n32, n32_addm1, m1_lt, lt_m1, m1_le, le_m1, m1_add1, ofNat_n32, u2_self, u2_n, mk_I, mk_T, ne_eq, not_true_eq_false, not_false_eq_true, ]; first | done | omega)) ?_
          simp (disch := omega) only [n32_of, neg_n32_1, n32_nat, n32_lt, n32_le, n32_eq, n32_add, n32_sub, n32_mul, n32_m1, m1_n32, n32_addm1, m1_lt, lt_m1, m1_le, le_m1, m1_add1, ofNat_n32, u2_self, u2_n, mk_I, mk_T, ]
          refine ok_mono (ih (j + 1) (by omega) (by omega)) (fun y σ' hq => ?_)
          obtain ⟨q1, q2⟩ := hq
          refine ⟨q1, ?_⟩
          rcases q2 with ⟨q2, q3⟩ | q2
          · refine Or.inl ⟨q2, fun i a c => ?_⟩
            by_cases ei : i = j
            · subst ei
              exact hm.trans ed
            · exact q3 i (by omega) c
          · exact Or.inr q2
        · with_reducible refine ok_in (by first | assumption | omega | (simp (disch := omega) only [n32_of, neg_n32_1, n32_nat, n32_lt, n32_le, n32_eq, n32_add, n32_sub, n32_mul, n32_m1, m1_n32, n32_addm1, m1_lt, lt_m1, m1_le, le_m1, m1_add1, ofNat_n32, u2_self, u2_n, mk_I, mk_T, ne_eq, not_true_eq_false, not_false_eq_true, ]; first | done | omega)) ?_
          rw [cO_t nar_b0]
          exact ok_some ⟨rfl, Or.inr ⟨rfl, j, by omega, fun q => hm (q.trans ed.symm)⟩⟩
      by_cases hpj : p + j < e
      · obtain ⟨hbi, hb2⟩ := hB.2 (p + j) (by omega)
        with_reducible refine ok_in (by first | assumption | omega | (simp (disch := omega) only [n32_of, neg_n32_1, n32_nat, n32_lt, n32_le, n32_eq, n32_add, n32_sub, n32_mul, n32_m1, m1_n32, n32_addm1, m1_lt, lt_m1, m1_le, le_m1, m1_add1, ofNat_n32, u2_self, u2_n, mk_I, mk_T, ne_eq, not_true_eq_false, not_false_eq_true, h4, h5]; first | done | omega)) ?_
        with_reducible refine ok_cO (by first | assumption | omega | (simp (disch := omega) only [n32_of, neg_n32_1, n32_nat, n32_lt, n32_le, n32_eq, n32_add, n32_sub, n32_mul, n32_m1, m1_n32, n32_addm1, m1_lt, lt_m1, m1_le, le_m1, m1_add1, ofNat_n32, u2_self, u2_n, mk_I, mk_T, ne_eq, not_true_eq_false, not_false_eq_true, h5]; first | done | omega)) ?_
        have := fin (b (p + j)) hb2 (if_pos hpj).symm
        simp (disch := omega) only [n32_of, neg_n32_1, n32_nat, n32_lt, n32_le, n32_eq, n32_add, n32_sub, n32_mul, n32_m1, m1_n32, n32_addm1, m1_lt, lt_m1, m1_le, le_m1, m1_add1, ofNat_n32, u2_self, u2_n, mk_I, mk_T, h5, hbi]
        exact this
      · with_reducible refine ok_ip (by first | assumption | omega | (simp (disch := omega) only [n32_of, neg_n32_1, n32_nat, n32_lt, n32_le, n32_eq, n32_add, n32_sub, n32_mul, n32_m1, m1_n32, n32_addm1, m1_lt, lt_m1, m1_le, le_m1, m1_add1, ofNat_n32, u2_self, u2_n, mk_I, mk_T, ne_eq, not_true_eq_false, not_false_eq_true, h4, h5]; first | done | omega)) ?_
        have := fin 32 (by omega) (if_neg hpj).symm
        exact this
theorem x_words {p e : Nat} {f : pln} (hN : 100 ≤ N) (h4 : f 1 4 = n32 e) (h5 : f 1 5 = n32 p) (hB : XBy b len f) (hel : e ≤ len) (hlen : len ≤ 2000) (hpe : p < e) (hl : ∀ j, p ≤ j → j < e → pLt (b j)) (he8 : e - p ≤ 8) : ∀ (n w : Nat), 16 - w < n → w ≤ 16 → Ok (H_X8_wordToken_58 N n (n32 w) (mk σ f)) (fun y σ' => σ' = mk σ f ∧ y = n32 (if e - p ≤ 7 then fw (wkM b p e) (16 - w) w else 26)) := by
  intro n
  induction n with
  | zero => intro w h; omega
  | succ n ih =>
    intro w hn hw
    rw [H_X8_wordToken_58]
    by_cases h16 : w = 16
    · with_reducible refine ok_ip (by first | assumption | omega | (simp (disch := omega) only [n32_of, neg_n32_1, n32_nat, n32_lt, n32_le, n32_eq, n32_add, n32_sub, n32_mul, n32_m1, m1_n32, n32_addm1, m1_lt, lt_m1, m1_le, le_m1, m1_add1, ofNat_n32, u2_self, u2_n, mk_I, mk_T, ne_eq, not_true_eq_false, not_false_eq_true, ]; first | done | omega)) ?_
      subst h16
      refine ok_some ⟨rfl, ?_⟩
      rw [show 16 - 16 = 0 by omega, fw, ite_self]
      rfl
    · with_reducible refine ok_in (by first | assumption | omega | (simp (disch := omega) only [n32_of, neg_n32_1, n32_nat, n32_lt, n32_le, n32_eq, n32_add, n32_sub, n32_mul, n32_m1, m1_n32, n32_addm1, m1_lt, lt_m1, m1_le, le_m1, m1_add1, ofNat_n32, u2_self, u2_n, mk_I, mk_T, ne_eq, not_true_eq_false, not_false_eq_true, ]; first | done | omega)) ?_
      unfold F_X8_isTokenTheWord
      have hw' : w < 16 := by omega
      have ew : n32 w * 8 = n32 (8 * w) := by
        rw [n32_of, n32_mul, Nat.mul_comm]
      rw [ew]
      refine ok_oB (ok_mono (x_isWord (σ := σ) (p := p) (e := e) (f := f) hw' h4 h5 hB hel hlen (by omega) N 0 (by omega) (by omega)) (fun y σ' hq => ?_))
      obtain ⟨rfl, hq⟩ := hq
      have iff := wm_iff hl hw' he8 hpe
      rcases hq with ⟨rfl, hq⟩ | ⟨rfl, i, hi, hq⟩
      · refine ok_in (by decide) ?_
        have k := iff.mp (fun j hj => hq j (by omega) hj)
        refine ok_some ⟨rfl, ?_⟩
        rw [if_pos k.1, show 16 - w = (15 - w) + 1 by omega, fw, if_pos (show wkM b p e w = true from decide_eq_true k.2)]
      · refine ok_ip rfl ?_
        simp (disch := omega) only [n32_of, neg_n32_1, n32_nat, n32_lt, n32_le, n32_eq, n32_add, n32_sub, n32_mul, n32_m1, m1_n32, n32_addm1, m1_lt, lt_m1, m1_le, le_m1, m1_add1, ofNat_n32, u2_self, u2_n, mk_I, mk_T, ]
        refine ok_mono (ih (w + 1) (by omega) (by omega)) (fun y σ' hz => ⟨hz.1, hz.2.trans ?_⟩)
        by_cases h7 : e - p ≤ 7
        · rw [if_pos h7, if_pos h7, show 16 - w = (16 - (w + 1)) + 1 by omega, fw, if_neg]
          intro q
          exact hq (iff.mpr ⟨h7, of_decide_eq_true q⟩ i hi)
        · rw [if_neg h7, if_neg h7]
theorem x_word {p : Nat} {f : pln} (hN : 3000 ≤ N) (hlen : len ≤ 2000) (hp : p < len) (hlt : pLt (b p)) (h4 : f 1 4 = n32 p) (h5 : f 1 5 = n32 p) (hB : XBy b len f) : Ok (F_X8_wordToken N (mk σ f)) (fun y σ' => y = n32 (wtk b p (lte b len p)) ∧ ∃ f', σ' = mk σ f' ∧ eq45 f f' ∧ f' 1 4 = n32 (lte b len p) ∧ f' 1 5 = n32 p) := by
  unfold F_X8_wordToken
  refine x_lte hlen N p f (by omega) (by omega) hB h4 (fun f' e e4 e5 => ?_)
  rw [h5] at e5
  obtain ⟨r1, r2, r3, r4⟩ := rn_all (P := fun i => decide (pLt (b i))) (len := len) (i := p) (by omega)
  have r1' : p < lte b len p := by
    unfold lte
    rw [rn_s hp (decide_eq_true hlt)]
    have := (rn_all (P := fun i => decide (pLt (b i))) (len := len) (i := p + 1) (by omega)).1
    omega
  have r2' : lte b len p ≤ len := r2
  unfold J_X8_wordToken_39
  by_cases h8 : lte b len p - p ≤ 8
  · with_reducible refine ok_ip (by first | assumption | omega | (simp (disch := omega) only [n32_of, neg_n32_1, n32_nat, n32_lt, n32_le, n32_eq, n32_add, n32_sub, n32_mul, n32_m1, m1_n32, n32_addm1, m1_lt, lt_m1, m1_le, le_m1, m1_add1, ofNat_n32, u2_self, u2_n, mk_I, mk_T, ne_eq, not_true_eq_false, not_false_eq_true, e4, e5]; first | done | omega)) ?_
    refine ok_mono (x_words (p := p) (e := lte b len p) (by omega) e4 e5 (XBy_45 hB e) r2' hlen r1' (fun j a c => of_decide_eq_true (r3 j a c)) h8 N 0 (by omega) (by omega)) (fun y σ' hq => ?_)
    exact ⟨hq.2, f', hq.1, e, e4, e5⟩
  · with_reducible refine ok_in (by first | assumption | omega | (simp (disch := omega) only [n32_of, neg_n32_1, n32_nat, n32_lt, n32_le, n32_eq, n32_add, n32_sub, n32_mul, n32_m1, m1_n32, n32_addm1, m1_lt, lt_m1, m1_le, le_m1, m1_add1, ofNat_n32, u2_self, u2_n, mk_I, mk_T, ne_eq, not_true_eq_false, not_false_eq_true, e4, e5]; first | done | omega)) ?_
    refine ok_some ⟨?_, f', rfl, e, e4, e5⟩
    unfold wtk
    rw [if_neg (by omega)]
    rfl
theorem x_int {p : Nat} {f : pln} (hN : 3000 ≤ N) (hlen : len ≤ 2000) (hp : p < len) (h4 : f 1 4 = n32 p) (h5 : f 1 5 = n32 p) (hB : XBy b len f) : Ok (F_X8_intToken N (mk σ f)) (fun y σ' => y = n32 (if dge b len p - p ≤ 4 then 32 + iv b p (dge b len p - p) else 26) ∧ ∃ f', σ' = mk σ f' ∧ eq45 f f' ∧ f' 1 4 = n32 (dge b len p) ∧ f' 1 5 = n32 p) := by
  unfold F_X8_intToken
  have e0 : (0 : Int32) = n32 (iv b p (p - p)) := by
    rw [Nat.sub_self]
    rfl
  rw [e0]
  obtain ⟨r1, r2, r3, r4⟩ := rn_all (P := fun i => decide (pDg (b i))) (len := len) (i := p) (by omega)
  have r1' : p ≤ dge b len p := r1
  have r2' : dge b len p ≤ len := r2
  refine x_dge hlen p N p f (by omega) (by omega) (by omega) hB h4 (fun f' e e4 e5 => ?_)
  rw [h5] at e5
  unfold J_X8_intToken_59 J_X8_intToken_81
  by_cases h8 : dge b len p - p ≤ 4
  · with_reducible refine ok_ip (by first | assumption | omega | (simp (disch := omega) only [n32_of, neg_n32_1, n32_nat, n32_lt, n32_le, n32_eq, n32_add, n32_sub, n32_mul, n32_m1, m1_n32, n32_addm1, m1_lt, lt_m1, m1_le, le_m1, m1_add1, ofNat_n32, u2_self, u2_n, mk_I, mk_T, ne_eq, not_true_eq_false, not_false_eq_true, e4, e5]; first | done | omega)) ?_
    refine ok_some ⟨?_, f', rfl, e, e4, e5⟩
    rw [if_pos h8, n32_of, n32_add]
  · with_reducible refine ok_in (by first | assumption | omega | (simp (disch := omega) only [n32_of, neg_n32_1, n32_nat, n32_lt, n32_le, n32_eq, n32_add, n32_sub, n32_mul, n32_m1, m1_n32, n32_addm1, m1_lt, lt_m1, m1_le, le_m1, m1_add1, ofNat_n32, u2_self, u2_n, mk_I, mk_T, ne_eq, not_true_eq_false, not_false_eq_true, e4, e5]; first | done | omega)) ?_
    refine ok_some ⟨?_, f', rfl, e, e4, e5⟩
    rw [if_neg h8]
    rfl
theorem x_eqs {p x y : Nat} {f : pln} (hlen : len ≤ 2000) (hp : p < len) (h4 : f 1 4 = n32 (p + 1)) (hB : XBy b len f) : Ok (F_X8_withEqualSign N (n32 x) (n32 y) (mk σ f)) (fun z σ' => z = n32 (if p + 1 < len ∧ b (p + 1) = 61 then x else y) ∧ σ' = mk σ (if p + 1 < len ∧ b (p + 1) = 61 then u2 f 1 4 (n32 (p + 2)) else f)) := by
  unfold F_X8_withEqualSign J_X8_withEqualSign_37
  have h0 := hB.1
  by_cases h1 : p + 1 < len
  · obtain ⟨hbi, hb2⟩ := hB.2 (p + 1) h1
    with_reducible refine ok_in (by first | assumption | omega | (simp (disch := omega) only [n32_of, neg_n32_1, n32_nat, n32_lt, n32_le, n32_eq, n32_add, n32_sub, n32_mul, n32_m1, m1_n32, n32_addm1, m1_lt, lt_m1, m1_le, le_m1, m1_add1, ofNat_n32, u2_self, u2_n, mk_I, mk_T, ne_eq, not_true_eq_false, not_false_eq_true, h0, h4]; first | done | omega)) ?_
    with_reducible refine ok_cO (by first | assumption | omega | (simp (disch := omega) only [n32_of, neg_n32_1, n32_nat, n32_lt, n32_le, n32_eq, n32_add, n32_sub, n32_mul, n32_m1, m1_n32, n32_addm1, m1_lt, lt_m1, m1_le, le_m1, m1_add1, ofNat_n32, u2_self, u2_n, mk_I, mk_T, ne_eq, not_true_eq_false, not_false_eq_true, h4]; first | done | omega)) ?_
    by_cases h61 : b (p + 1) = 61
    · with_reducible refine ok_in (by first | assumption | omega | (simp (disch := omega) only [n32_of, neg_n32_1, n32_nat, n32_lt, n32_le, n32_eq, n32_add, n32_sub, n32_mul, n32_m1, m1_n32, n32_addm1, m1_lt, lt_m1, m1_le, le_m1, m1_add1, ofNat_n32, u2_self, u2_n, mk_I, mk_T, ne_eq, not_true_eq_false, not_false_eq_true, h4, hbi]; first | done | omega)) ?_
      repeat (first | with_reducible refine ok_W ?_ | with_reducible refine ok_cO (by first | assumption | omega | (simp (disch := omega) only [n32_of, neg_n32_1, n32_nat, n32_lt, n32_le, n32_eq, n32_add, n32_sub, n32_mul, n32_m1, m1_n32, n32_addm1, m1_lt, lt_m1, m1_le, le_m1, m1_add1, ofNat_n32, u2_self, u2_n, mk_I, mk_T, ne_eq, not_true_eq_false, not_false_eq_true, ]; first | done | omega)) ?_ | with_reducible refine ok_ip (by first | assumption | omega | (simp (disch := omega) only [n32_of, neg_n32_1, n32_nat, n32_lt, n32_le, n32_eq, n32_add, n32_sub, n32_mul, n32_m1, m1_n32, n32_addm1, m1_lt, lt_m1, m1_le, le_m1, m1_add1, ofNat_n32, u2_self, u2_n, mk_I, mk_T, ne_eq, not_true_eq_false, not_false_eq_true, ]; first | done | omega)) ?_ | with_reducible refine ok_in (by first | assumption | omega | (simp (disch := omega) only [n32_of, neg_n32_1, n32_nat, n32_lt, n32_le, n32_eq, n32_add, n32_sub, n32_mul, n32_m1, m1_n32, n32_addm1, m1_lt, lt_m1, m1_le, le_m1, m1_add1, ofNat_n32, u2_self, u2_n, mk_I, mk_T, ne_eq, not_true_eq_false, not_false_eq_true, ]; first | done | omega)) ?_)
      refine ok_some ⟨?_, ?_⟩
      · rw [if_pos ⟨h1, h61⟩]
      · rw [if_pos ⟨h1, h61⟩]
        simp (disch := omega) only [n32_of, neg_n32_1, n32_nat, n32_lt, n32_le, n32_eq, n32_add, n32_sub, n32_mul, n32_m1, m1_n32, n32_addm1, m1_lt, lt_m1, m1_le, le_m1, m1_add1, ofNat_n32, u2_self, u2_n, mk_I, mk_T, h4]
    · with_reducible refine ok_ip (by first | assumption | omega | (simp (disch := omega) only [n32_of, neg_n32_1, n32_nat, n32_lt, n32_le, n32_eq, n32_add, n32_sub, n32_mul, n32_m1, m1_n32, n32_addm1, m1_lt, lt_m1, m1_le, le_m1, m1_add1, ofNat_n32, u2_self, u2_n, mk_I, mk_T, ne_eq, not_true_eq_false, not_false_eq_true, h4, hbi]; first | done | omega)) ?_
      refine ok_some ⟨?_, ?_⟩
      · rw [if_neg (fun q => h61 q.2)]
      · rw [if_neg (fun q => h61 q.2)]
  · with_reducible refine ok_ip (by first | assumption | omega | (simp (disch := omega) only [n32_of, neg_n32_1, n32_nat, n32_lt, n32_le, n32_eq, n32_add, n32_sub, n32_mul, n32_m1, m1_n32, n32_addm1, m1_lt, lt_m1, m1_le, le_m1, m1_add1, ofNat_n32, u2_self, u2_n, mk_I, mk_T, ne_eq, not_true_eq_false, not_false_eq_true, h0, h4]; first | done | omega)) ?_
    refine ok_some ⟨?_, ?_⟩
    · rw [if_neg (fun q => h1 q.1)]
    · rw [if_neg (fun q => h1 q.1)]
theorem x_sign {p : Nat} {f : pln} (hlen : len ≤ 2000) (hp : p < len) (h4 : f 1 4 = n32 p) (h5 : f 1 5 = n32 p) (hB : XBy b len f) : Ok (F_X8_signToken N (n32 (b p)) (mk σ f)) (fun y σ' => y = n32 (if two b len p then sg2 (b p) else sg1 (b p)) ∧ ∃ f', σ' = mk σ f' ∧ eq45 f f' ∧ f' 1 4 = n32 (if two b len p then p + 2 else p + 1) ∧ f' 1 5 = n32 p) := by
  have hb2 := (hB.2 p hp).2
  unfold F_X8_signToken
  repeat (first | with_reducible refine ok_W ?_ | with_reducible refine ok_cO (by first | assumption | omega | (simp (disch := omega) only [n32_of, neg_n32_1, n32_nat, n32_lt, n32_le, n32_eq, n32_add, n32_sub, n32_mul, n32_m1, m1_n32, n32_addm1, m1_lt, lt_m1, m1_le, le_m1, m1_add1, ofNat_n32, u2_self, u2_n, mk_I, mk_T, ne_eq, not_true_eq_false, not_false_eq_true, h4]; first | done | omega)) ?_ | with_reducible refine ok_ip (by first | assumption | omega | (simp (disch := omega) only [n32_of, neg_n32_1, n32_nat, n32_lt, n32_le, n32_eq, n32_add, n32_sub, n32_mul, n32_m1, m1_n32, n32_addm1, m1_lt, lt_m1, m1_le, le_m1, m1_add1, ofNat_n32, u2_self, u2_n, mk_I, mk_T, ne_eq, not_true_eq_false, not_false_eq_true, h4]; first | done | omega)) ?_ | with_reducible refine ok_in (by first | assumption | omega | (simp (disch := omega) only [n32_of, neg_n32_1, n32_nat, n32_lt, n32_le, n32_eq, n32_add, n32_sub, n32_mul, n32_m1, m1_n32, n32_addm1, m1_lt, lt_m1, m1_le, le_m1, m1_add1, ofNat_n32, u2_self, u2_n, mk_I, mk_T, ne_eq, not_true_eq_false, not_false_eq_true, h4]; first | done | omega)) ?_)
  have eW : aWI (mk σ f) 1 4 (aI (mk σ f) 1 4 + 1) = mk σ (u2 f 1 4 (n32 (p + 1))) := by
    rw [mk_W]
    simp (disch := omega) only [n32_of, neg_n32_1, n32_nat, n32_lt, n32_le, n32_eq, n32_add, n32_sub, n32_mul, n32_m1, m1_n32, n32_addm1, m1_lt, lt_m1, m1_le, le_m1, m1_add1, ofNat_n32, u2_self, u2_n, mk_I, mk_T, h4]
  generalize hg : u2 f 1 4 (n32 (p + 1)) = g at eW
  have eg : eq45 f g := by rw [← hg]; exact eq45_4
  have g4 : g 1 4 = n32 (p + 1) := by rw [← hg]; exact u2_self
  have g5 : g 1 5 = n32 p := by rw [← hg, u2_n (by omega)]; exact h5
  have gB := XBy_45 hB eg
  simp (disch := omega) only [n32_of, neg_n32_1, n32_nat, n32_lt, n32_le, n32_eq, n32_add, n32_sub, n32_mul, n32_m1, m1_n32, n32_addm1, m1_lt, lt_m1, m1_le, le_m1, m1_add1, ofNat_n32, u2_self, u2_n, mk_I, mk_T, h4]
  rw [hg]
  have one1 : ∀ (c t : Nat), b p = c → ¬ (c = 61 ∨ c = 33 ∨ c = 60) → sg1 c = t → Ok (some (n32 t, mk σ g)) (fun y σ' => y = n32 (if two b len p then sg2 (b p) else sg1 (b p)) ∧ ∃ f', σ' = mk σ f' ∧ eq45 f f' ∧ f' 1 4 = n32 (if two b len p then p + 2 else p + 1) ∧ f' 1 5 = n32 p) := by
    intro c t hc hn ht
    have h2 : ¬ two b len p := fun q => hn (hc ▸ q.2)
    refine ok_some ⟨?_, g, rfl, eg, ?_, g5⟩
    · rw [if_neg h2, hc, ht]
    · rw [if_neg h2, g4]
  have two1 : ∀ (c x y : Nat), b p = c → (c = 61 ∨ c = 33 ∨ c = 60) → sg2 c = x → sg1 c = y → Ok (oB (F_X8_withEqualSign N (n32 x) (n32 y) (mk σ g)) fun y5 σ6 => some (y5, σ6)) (fun y σ' => y = n32 (if two b len p then sg2 (b p) else sg1 (b p)) ∧ ∃ f', σ' = mk σ f' ∧ eq45 f f' ∧ f' 1 4 = n32 (if two b len p then p + 2 else p + 1) ∧ f' 1 5 = n32 p) := by
    intro c x y hc hn hx hy
    refine ok_oB (ok_mono (x_eqs hlen hp g4 gB) (fun z σ' hz => ?_))
    obtain ⟨rfl, rfl⟩ := hz
    by_cases hq : p + 1 < len ∧ b (p + 1) = 61
    · have h2 : two b len p := ⟨hq, hc ▸ hn⟩
      rw [if_pos hq, if_pos hq]
      refine ok_some ⟨?_, _, rfl, eq45_tr eg eq45_4, ?_, ?_⟩
      · rw [if_pos h2, hc, hx]
      · rw [if_pos h2, u2_self]
      · rw [u2_n (by omega)]
        exact g5
    · have h2 : ¬ two b len p := fun q => hq q.1
      rw [if_neg hq, if_neg hq]
      refine ok_some ⟨?_, g, rfl, eg, ?_, g5⟩
      · rw [if_neg h2, hc, hy]
      · rw [if_neg h2, g4]
  refine ok_if (fun hc => two1 33 21 26 hc (by omega) rfl rfl) (fun n1 => ?_)
  refine ok_if (fun hc => one1 40 24 hc (by omega) rfl) (fun n2 => ?_)
  refine ok_if (fun hc => one1 41 25 hc (by omega) rfl) (fun n3 => ?_)
  refine ok_if (fun hc => one1 42 19 hc (by omega) rfl) (fun n4 => ?_)
  refine ok_if (fun hc => one1 43 17 hc (by omega) rfl) (fun n5 => ?_)
  refine ok_if (fun hc => one1 45 18 hc (by omega) rfl) (fun n6 => ?_)
  refine ok_if (fun hc => one1 59 16 hc (by omega) rfl) (fun n7 => ?_)
  refine ok_if (fun hc => two1 60 23 22 hc (by omega) rfl rfl) (fun n8 => ?_)
  refine ok_if (fun hc => two1 61 20 26 hc (by omega) rfl rfl) (fun n9 => ?_)
  unfold J_X8_signToken_185
  refine one1 (b p) 26 rfl (by omega) ?_
  unfold sg1
  rw [if_neg n2, if_neg n3, if_neg n4, if_neg n5, if_neg n6, if_neg n7, if_neg n8]
/-- the next token, wherever the program looks -/
theorem x_next {i : Nat} {f : pln} (hN : 3000 ≤ N) (hlen : len ≤ 2000) (hi : i ≤ len) (h4 : f 1 4 = n32 i) (hB : XBy b len f) : Ok (F_X8_nextToken N (mk σ f)) (fun y σ' => y = n32 (lxT b len (skp b len i)) ∧ ∃ f', σ' = mk σ f' ∧ eq45 f f' ∧ f' 1 4 = n32 (lxE b len (skp b len i)) ∧ f' 1 5 = n32 (skp b len i)) := by
  unfold F_X8_nextToken
  refine x_skip hlen N i f (by omega) hi hB h4 (fun g e g4 => ?_)
  have gl := (skp_le (b := b) hi).2
  generalize skp b len i = p at g4 gl
  have gB := XBy_45 hB e
  have g0 := gB.1
  unfold J_X8_nextToken_39
  repeat (first | with_reducible refine ok_W ?_ | with_reducible refine ok_cO (by first | assumption | omega | (simp (disch := omega) only [n32_of, neg_n32_1, n32_nat, n32_lt, n32_le, n32_eq, n32_add, n32_sub, n32_mul, n32_m1, m1_n32, n32_addm1, m1_lt, lt_m1, m1_le, le_m1, m1_add1, ofNat_n32, u2_self, u2_n, mk_I, mk_T, ne_eq, not_true_eq_false, not_false_eq_true, ]; first | done | omega)) ?_ | with_reducible refine ok_ip (by first | assumption | omega | (simp (disch := omega) only [n32_of, neg_n32_1, n32_nat, n32_lt, n32_le, n32_eq, n32_add, n32_sub, n32_mul, n32_m1, m1_n32, n32_addm1, m1_lt, lt_m1, m1_le, le_m1, m1_add1, ofNat_n32, u2_self, u2_n, mk_I, mk_T, ne_eq, not_true_eq_false, not_false_eq_true, ]; first | done | omega)) ?_ | with_reducible refine ok_in (by first | assumption | omega | (simp (disch := omega) only [n32_of, neg_n32_1, n32_nat, n32_lt, n32_le, n32_eq, n32_add, n32_sub, n32_mul, n32_m1, m1_n32, n32_addm1, m1_lt, lt_m1, m1_le, le_m1, m1_add1, ofNat_n32, u2_self, u2_n, mk_I, mk_T, ne_eq, not_true_eq_false, not_false_eq_true, ]; first | done | omega)) ?_)
  have eW : aWI (mk σ g) 1 5 (aI (mk σ g) 1 4) = mk σ (u2 g 1 5 (n32 p)) := by
    rw [mk_W]
    simp (disch := omega) only [n32_of, neg_n32_1, n32_nat, n32_lt, n32_le, n32_eq, n32_add, n32_sub, n32_mul, n32_m1, m1_n32, n32_addm1, m1_lt, lt_m1, m1_le, le_m1, m1_add1, ofNat_n32, u2_self, u2_n, mk_I, mk_T, g4]
  generalize hg : u2 g 1 5 (n32 p) = h at eW
  have eh : eq45 f h := eq45_tr e (by rw [← hg]; exact eq45_5)
  have h4' : h 1 4 = n32 p := by rw [← hg, u2_n (by omega)]; exact g4
  have h5' : h 1 5 = n32 p := by rw [← hg]; exact u2_self
  have hB' := XBy_45 hB eh
  have h0' := hB'.1
  simp (disch := omega) only [n32_of, neg_n32_1, n32_nat, n32_lt, n32_le, n32_eq, n32_add, n32_sub, n32_mul, n32_m1, m1_n32, n32_addm1, m1_lt, lt_m1, m1_le, le_m1, m1_add1, ofNat_n32, u2_self, u2_n, mk_I, mk_T, g4]
  rw [hg]
  by_cases hp : p < len
  · obtain ⟨hbi, hb2⟩ := hB'.2 p hp
    have gbi := (gB.2 p hp).1
    with_reducible refine ok_ip (by first | assumption | omega | (simp (disch := omega) only [n32_of, neg_n32_1, n32_nat, n32_lt, n32_le, n32_eq, n32_add, n32_sub, n32_mul, n32_m1, m1_n32, n32_addm1, m1_lt, lt_m1, m1_le, le_m1, m1_add1, ofNat_n32, u2_self, u2_n, mk_I, mk_T, ne_eq, not_true_eq_false, not_false_eq_true, h0', h4', g0, g4]; first | done | omega)) ?_
    with_reducible refine ok_cO (by first | assumption | omega | (simp (disch := omega) only [n32_of, neg_n32_1, n32_nat, n32_lt, n32_le, n32_eq, n32_add, n32_sub, n32_mul, n32_m1, m1_n32, n32_addm1, m1_lt, lt_m1, m1_le, le_m1, m1_add1, ofNat_n32, u2_self, u2_n, mk_I, mk_T, ne_eq, not_true_eq_false, not_false_eq_true, h4', g4]; first | done | omega)) ?_
    refine ok_oB (ok_eq (by simp (disch := omega) only [n32_of, neg_n32_1, n32_nat, n32_lt, n32_le, n32_eq, n32_add, n32_sub, n32_mul, n32_m1, m1_n32, n32_addm1, m1_lt, lt_m1, m1_le, le_m1, m1_add1, ofNat_n32, u2_self, u2_n, mk_I, mk_T, h4', hbi, g4, gbi]; exact t_lt hb2) (ok_some ?_))
    by_cases hL : pLt (b p)
    · refine ok_in (yz hL) ?_
      refine ok_oB (ok_mono (x_word hN hlen hp hL h4' h5' hB') (fun y σ' hq => ?_))
      obtain ⟨q1, f', q2, q3, q4, q5⟩ := hq
      refine ok_some ⟨?_, f', q2, eq45_tr eh q3, ?_, q5⟩
      · unfold lxT
        rw [if_neg (by omega), if_pos hL]
        exact q1
      · unfold lxE
        rw [if_neg (by omega), if_pos hL]
        exact q4
    · refine ok_ip (nz hL) ?_
      refine ok_oB (ok_eq (by simp (disch := omega) only [n32_of, neg_n32_1, n32_nat, n32_lt, n32_le, n32_eq, n32_add, n32_sub, n32_mul, n32_m1, m1_n32, n32_addm1, m1_lt, lt_m1, m1_le, le_m1, m1_add1, ofNat_n32, u2_self, u2_n, mk_I, mk_T, h4', hbi, g4, gbi]; exact t_dg hb2) (ok_some ?_))
      by_cases hD : pDg (b p)
      · refine ok_in (yz hD) ?_
        refine ok_oB (ok_mono (x_int hN hlen hp h4' h5' hB') (fun y σ' hq => ?_))
        obtain ⟨q1, f', q2, q3, q4, q5⟩ := hq
        refine ok_some ⟨?_, f', q2, eq45_tr eh q3, ?_, q5⟩
        · unfold lxT
          rw [if_neg (by omega), if_neg hL, if_pos hD]
          exact q1
        · unfold lxE
          rw [if_neg (by omega), if_neg hL, if_pos hD]
          exact q4
      · refine ok_ip (nz hD) ?_
        refine ok_oB (ok_mono (ok_eq (by simp (disch := omega) only [n32_of, neg_n32_1, n32_nat, n32_lt, n32_le, n32_eq, n32_add, n32_sub, n32_mul, n32_m1, m1_n32, n32_addm1, m1_lt, lt_m1, m1_le, le_m1, m1_add1, ofNat_n32, u2_self, u2_n, mk_I, mk_T, h4', hbi, g4, gbi]) (x_sign (N := N) (σ := σ) hlen hp h4' h5' hB')) (fun y σ' hq => ?_))
        obtain ⟨q1, f', q2, q3, q4, q5⟩ := hq
        refine ok_some ⟨?_, f', q2, eq45_tr eh q3, ?_, q5⟩
        · unfold lxT
          rw [if_neg (by omega), if_neg hL, if_neg hD]
          exact q1
        · unfold lxE
          rw [if_neg (by omega), if_neg hL, if_neg hD]
          exact q4
  · with_reducible refine ok_in (by first | assumption | omega | (simp (disch := omega) only [n32_of, neg_n32_1, n32_nat, n32_lt, n32_le, n32_eq, n32_add, n32_sub, n32_mul, n32_m1, m1_n32, n32_addm1, m1_lt, lt_m1, m1_le, le_m1, m1_add1, ofNat_n32, u2_self, u2_n, mk_I, mk_T, ne_eq, not_true_eq_false, not_false_eq_true, h0', h4', g0, g4]; first | done | omega)) ?_
    refine ok_some ⟨?_, h, rfl, eh, ?_, h5'⟩
    · unfold lxT
      rw [if_pos (by omega)]
    · unfold lxE
      rw [if_pos (by omega)]
      exact h4'
end XL
