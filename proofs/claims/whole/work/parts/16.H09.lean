/-- every lot's way, when all have gone -/
def drG (G : SG) (l : Nat) : SR := (gre G l).getD (none, 0, 0, 0)
theorem all_gone {K : SP} {G : SG} (hG : GI K G) (h : ggo G = hn (kD K)) : ∀ l, l < hn (kD K) → gre G l = some (drG G l) := by
  obtain ⟨g1, g2, g3, g4, g5, g6, g7, g8, g9⟩ := hG
  have hoc : oc (gcl G) = 0 := by omega
  have hnx : gnx G = hn (kD K) := by omega
  have hcl : ∀ c, c < 3 → gcl G c = none := by
    unfold oc at hoc
    intro c hc
    have hz : (gcl G c).isSome.toNat = 0 := by
      rcases (show c = 0 ∨ c = 1 ∨ c = 2 by omega) with rfl | rfl | rfl <;> omega
    cases e : gcl G c with
    | none => rfl
    | some x => rw [e] at hz; cases hz
  intro l hl
  rcases g5 l (by omega) with h1 | ⟨c, hc, h2⟩
  · cases e : gre G l with
    | none => exact absurd e h1
    | some r => unfold drG; rw [e]; rfl
  · rw [hcl c hc] at h2
    cases h2
theorem drG_ok {K : SP} {G : SG} (hG : GI K G) (h : ggo G = hn (kD K)) (hs : gsec G ≤ 24000) : dOK (kD K) (drG G) := by
  intro l hl
  have e := all_gone hG h l hl
  obtain ⟨a1, a2, a3, a4, a5⟩ := hG.2.2.2.2.2.2.2.2 l _ e
  exact ⟨a1, a2, a3, by omega, a5⟩
section WO
variable {N : Nat} {σ : aSt} {f : pln} {len : Nat} {D : HD} {Y : LY} {s : Bool} {dr : Nat → SR} {st le : Nat → Nat} {ha : Nat → Nat → Nat} {sp nl : Nat → Nat} {rt : Nat → List Ru} {lw : Nat → Nat}
theorem xc_of {o : Option Nat} (h3 : sHall f D) (h8 : sTxt σ f rt lw) : XC f σ (mkK D rt o) := by
  have m6 := h3.1.2.1
  refine ⟨h3.2.1, fun b hb => ?_⟩
  have hb' : b < hm D := hb
  have T := h8.2 (b + 1) (by omega)
  have T1 := h8.1.2 (b + 1) (by omega)
  rw [txW_s] at T T1
  exact ⟨T.1, T1.1, T.2.1⟩
theorem rc_of {o : Option Nat} (h3 : sHall f D) (h8 : sTxt σ f rt lw) : RC f (mkK D rt o) := by
  have m6 := h3.1.2.1
  refine ⟨h3.2.2, fun b hb => ?_⟩
  have hb' : b < hm D := hb
  have T := h8.2 (b + 1) (by omega)
  exact ⟨T.1, lw (b + 1), T.2.2.1, T.2.2.2.1, RPg_self T.2.2.2.2⟩
/-- the program's sale, and from any plane that shows the same the reference's: one and the same end -/
theorem sale_two {sa : Nat} {o : Option Nat} {f1 : pln} (hN : 100000 ≤ N) (hs : isS sa) (h3 : sHall f D) (h8 : sTxt σ f rt lw) (ho : ∀ b, o = some b → b < 6) (hH : sHall f1 D) (hT : sTxt σ f1 rt lw) : Ok (F_X9_hold N sa (oI o) (mk σ f)) (fun _ σ' => ∃ G' f', σ' = mk σ f' ∧ ggo G' = hn D ∧ GI (mkK D rt o) G' ∧ (gsec G' ≤ 24000 ∧ (0 < hn D → 0 < gsec G')) ∧ XH f' σ sa (mkK D rt o) G' ∧ eqS (scXS sa) f f' ∧ Ok (F_X12_goes N (oI o) (mk σ f1)) (fun y σ'' => y = pre (gsec G') ∧ ∃ fr', σ'' = mk σ fr' ∧ RS fr' (mkK D rt o) G' ∧ eqS scS f1 fr')) := by
  have T := h8.2 0 (by omega)
  have T1 := h8.1.2 0 (by omega)
  have T' := hT.2 0 (by omega)
  rw [txW_0] at T T1
  have r5 := RPg_self T'.2.2.2.2
  rw [Nat.mul_zero, Nat.zero_add] at r5
  obtain ⟨k1, k2⟩ := mkK_ok (D := D) (rt := rt) (o := o) h3.1
  exact sale_all (K := mkK D rt o) (rh := rt 0) (l0 := lw 0) hN hs k1 k2 ho T.1 (xc_of h3 h8) T1.1 T.2.1 T'.2.2.1 T'.2.2.2.1 (rc_of hH hT) r5
theorem mk_inj {f g : pln} (h : mk σ f = mk σ g) : f = g := congrArg aI h
theorem r_brings {l : Nat} {r : SR} {f1 : pln} (hD : HOK D) (hl : l < hn D) (hr : (∀ b, r.1 = some b → b < hm D) ∧ 1 ≤ r.2.1 ∧ r.2.1 ≤ 999) (e0 : f1 280 l = oI r.1) (e1 : f1 281 l = n32 r.2.1) (e3 : f1 262 l = n32 (lo D 3 l)) : F_X12_brings N (n32 l) (mk σ f1) = some (n32 (brP D l r), mk σ f1) := by
  have n24 := hD.1
  have m6 := hD.2.1
  have dl := hD.2.2.1 l hl
  have cz : ¬ (n32 l < 0 ∨ 24 ≤ (n32 l).toNatClampNeg) := by first | assumption | omega | (simp (disch := omega) only [n32_of, neg_n32_1, n32_nat, n32_lt, n32_le, n32_eq, n32_add, n32_sub, n32_mul, n32_m1, m1_n32, n32_addm1, m1_lt, lt_m1, m1_le, le_m1, m1_add1, ofNat_n32, u2_self, u2_n, mk_I, mk_T, ne_eq, not_true_eq_false, not_false_eq_true, ]; first | done | omega)
  have hm : r.2.1 * lo D 3 l ≤ 999 * 20 := Nat.mul_le_mul hr.2.2 dl.2.2.2.2.1
  unfold F_X12_brings J_X12_brings_38
  rw [cO_t cz, cO_t cz, cO_t cz, mk_I, n32_nat (by omega), e0, e1, e3, n32_mul]
  cases hb : r.1 with
  | none =>
    rw [if_neg (fun q => q rfl)]
    have e : brP D l r = r.2.1 * lo D 3 l / 2 := by unfold brP; rw [hb]
    rw [e]
    show some (n32 (r.2.1 * lo D 3 l) / n32 2, mk σ f1) = _
    rw [n32_div (by omega) (by omega)]
  | some b =>
    have hb6 := hr.1 b hb
    have e : brP D l r = r.2.1 * lo D 3 l - r.2.1 * lo D 3 l * 3 / 100 := by unfold brP; rw [hb]
    rw [e, if_pos (show oI (some b) ≠ -1 from fun q => by
      have q' : n32 b = m1 := q
      rw [n32_m1 (by omega)] at q'
      exact q')]
    show some (n32 (r.2.1 * lo D 3 l) - n32 (r.2.1 * lo D 3 l) * n32 3 / n32 100, mk σ f1) = _
    rw [n32_mul, n32_div (by omega) (by omega), n32_sub (by omega)]
set_option maxHeartbeats 400000 in
theorem op_without (hN : 100000 ≤ N) (x1 : Int32) (hI : IVx σ f len D Y s dr st le ha sp nl rt lw) : Same σ (F_X11_without N x1) (F_X12_without N x1) f := by
  have hI0 := hI
  obtain ⟨t, h2, h3, h4, h5, h6, h7, h8⟩ := hI
  have n24 := h3.1.1
  have m6 := h3.1.2.1
  have e3 := h3.2.1.2.1
  have e43 := h3.2.2.2.1
  have e8 := h5.2.1
  have e53 := h5.2.2
  have fail : ∀ {R : Option (Int32 × aSt)}, Ok R (fun z σ2 => z = -1 ∧ σ2 = mk σ f) → Ok R (fun z σ2 => (-1 : Int32) = z ∧ ∃ f' W, σ2 = mk σ f' ∧ IV σ f' W) := fun h => ok_mono h (fun z σ2 q => ⟨q.1.symm, by rw [q.2]; exact IV_mk hI0⟩)
  refine same_q (fun Q hQ => ?_)
  unfold F_X11_without J_X11_without_18
  simp only [s_hasBuyer, oB_s, bI_n0]
  cases s with
  | false =>
    with_reducible refine ok_ipi ?_ ?_
    · exact e8
    refine ok_some (hQ _ _ (fail ?_))
    unfold F_X12_without J_X12_without_15
    simp only [s_isBuyer, oB_s, bI_0]
    refine ok_ifi (fun _ => ok_some ⟨rfl, rfl⟩) (fun _ => ?_)
    with_reducible refine ok_ini ?_ ?_
    · exact fun q => q e53
    exact ok_some ⟨rfl, rfl⟩
  | true =>
    with_reducible refine ok_ini ?_ ?_
    · rw [mk_I, e8]
      decide
    by_cases hb : ¬ x1 < 0 ∧ x1 < n32 (hm D)
    · with_reducible refine ok_ipi ?_ ?_
      · rw [mk_I, e3]
        exact hb
      obtain ⟨b, hb2, rfl⟩ := rng_lt (by omega) hb.1 hb.2
      have ho : ∀ b', some b = some b' → b' < 6 := fun b' e => by
        cases e
        omega
      obtain ⟨u, σ1, e1, G1, f1, rfl, -, -, -, -, he1, -⟩ := sale_two (sa := 147) (o := some b) (f1 := f) hN (Or.inr rfl) h3 h8 ho h3 h8
      have hv1 : eqV vis f f1 := fun a k hk => he1 a k (by have := nv147 hk; have := nvX hk; omega)
      have H1 := sHall_cg h3 (fun a k hk => hv1 a k (vH hk))
      have T1 := sTxt_cg h8 (fun a k hk => hv1 a k (vX hk))
      obtain ⟨u2, σ2, e2, G', f2, rfl, g1, g2, g3, g4, g5, g6⟩ := sale_two (sa := 147) (o := some b) (f1 := f1) hN (Or.inr rfl) h3 h8 ho H1 T1
      have ef : f1 = f2 := by
        have := e1.symm.trans e2
        simp only [Option.some.injEq, Prod.mk.injEq] at this
        exact mk_inj this.2
      subst ef
      have hg := all_gone g2 g1
      have hdk := drG_ok g2 g1 g3.1
      refine ok_oB ⟨u, mk σ f1, e1, ?_⟩
      have c11 : f1 11 1 = n32 (hn D) := H1.2.1.1
      have xl : ∀ n l, hn D < n + l → l ≤ hn D → Ok (H_X9_takingsOfAll_4 N n 147 (sumI (fun l => n32 (brP D l (drG G' l))) l) (n32 l) (mk σ f1)) (fun y σ' => y = sumI (fun l => n32 (brP D l (drG G' l))) (hn D) ∧ σ' = mk σ f1) := by
        intro n
        induction n with
        | zero => intro l h1 h2; omega
        | succ n ih =>
          intro l h1 h2
          rw [H_X9_takingsOfAll_4]
          by_cases hl : hn D ≤ l
          · with_reducible refine ok_ipi (by first | assumption | omega | (simp (disch := omega) only [n32_of, neg_n32_1, n32_nat, n32_lt, n32_le, n32_eq, n32_add, n32_sub, n32_mul, n32_m1, m1_n32, n32_addm1, m1_lt, lt_m1, m1_le, le_m1, m1_add1, ofNat_n32, u2_self, u2_n, mk_I, mk_T, ne_eq, not_true_eq_false, not_false_eq_true, c11]; first | done | omega)) ?_
            rw [show l = hn D by omega]
            exact ok_some ⟨rfl, rfl⟩
          · with_reducible refine ok_ini (by first | assumption | omega | (simp (disch := omega) only [n32_of, neg_n32_1, n32_nat, n32_lt, n32_le, n32_eq, n32_add, n32_sub, n32_mul, n32_m1, m1_n32, n32_addm1, m1_lt, lt_m1, m1_le, le_m1, m1_add1, ofNat_n32, u2_self, u2_n, mk_I, mk_T, ne_eq, not_true_eq_false, not_false_eq_true, c11]; first | done | omega)) ?_
            with_reducible refine ok_cOi (by first | assumption | omega | (simp (disch := omega) only [n32_of, neg_n32_1, n32_nat, n32_lt, n32_le, n32_eq, n32_add, n32_sub, n32_mul, n32_m1, m1_n32, n32_addm1, m1_lt, lt_m1, m1_le, le_m1, m1_add1, ofNat_n32, u2_self, u2_n, mk_I, mk_T, ne_eq, not_true_eq_false, not_false_eq_true, ]; first | done | omega)) ?_
            have w6 : f1 (147 + 4 + l) 6 = n32 (brP D l (drG G' l)) := (g4.1.2.2.2.2.2.2 l _ (hg l (by show l < hn D; omega))).2.2.2
            have nx := ih (l + 1) (by omega) (by omega)
            rw [sumI] at nx
            rw [n32_nat (by omega), mk_I, w6]
            simp (disch := omega) only [n32_of, neg_n32_1, n32_nat, n32_lt, n32_le, n32_eq, n32_add, n32_sub, n32_mul, n32_m1, m1_n32, n32_addm1, m1_lt, lt_m1, m1_le, le_m1, m1_add1, ofNat_n32, u2_self, u2_n, mk_I, mk_T, ]
            exact nx
      unfold F_X9_takingsOfAll
      refine ok_oB (ok_mono (xl N 0 (by omega) (by omega)) ?_)
      rintro y _ ⟨rfl, rfl⟩
      refine ok_some (hQ _ _ ?_)
      unfold F_X12_without J_X12_without_15
      simp only [s_isBuyer, oB_s, bI_0]
      have c43 : f1 235 43 = n32 (hm D) := H1.2.2.2.1
      with_reducible refine ok_ini ?_ ?_
      · rw [mk_I, c43]
        exact fun q => q hb
      with_reducible refine ok_ipi ?_ ?_
      · rw [mk_I, (hv1 235 53 (vD (by omega))), e53]
        decide
      refine ok_oB (ok_mono g6 ?_)
      rintro y _ ⟨rfl, f3, rfl, r1, r2⟩
      have c37 : f3 235 37 = n32 (hn D) := r1.1.1.1
      have hp : 0 < hn D → ¬ pre (gsec G') = -1 := by
        intro h0
        have h1 := g3.2 h0
        have h2 := g3.1
        unfold pre
        rw [if_neg (by omega)]
        intro q
        have q' : n32 (gsec G' - 1) = m1 := q
        rw [n32_m1 (by omega)] at q'
        exact q'
      have rl : ∀ n l, hn D < n + l → l ≤ hn D → Ok (H_X12_without_28 N n (pre (gsec G')) (sumI (fun l => n32 (brP D l (drG G' l))) l) (n32 l) (mk σ f3)) (fun y σ' => y = sumI (fun l => n32 (brP D l (drG G' l))) (hn D) ∧ σ' = mk σ f3) := by
        intro n
        induction n with
        | zero => intro l h1 h2; omega
        | succ n ih =>
          intro l h1 h2
          rw [H_X12_without_28]
          unfold J_X12_without_57
          by_cases hl : hn D ≤ l
          · with_reducible refine ok_ipi (by first | assumption | omega | (simp (disch := omega) only [n32_of, neg_n32_1, n32_nat, n32_lt, n32_le, n32_eq, n32_add, n32_sub, n32_mul, n32_m1, m1_n32, n32_addm1, m1_lt, lt_m1, m1_le, le_m1, m1_add1, ofNat_n32, u2_self, u2_n, mk_I, mk_T, ne_eq, not_true_eq_false, not_false_eq_true, c37]; first | done | omega)) ?_
            rw [show l = hn D by omega]
            exact ok_some ⟨rfl, rfl⟩
          · with_reducible refine ok_ini (by first | assumption | omega | (simp (disch := omega) only [n32_of, neg_n32_1, n32_nat, n32_lt, n32_le, n32_eq, n32_add, n32_sub, n32_mul, n32_m1, m1_n32, n32_addm1, m1_lt, lt_m1, m1_le, le_m1, m1_add1, ofNat_n32, u2_self, u2_n, mk_I, mk_T, ne_eq, not_true_eq_false, not_false_eq_true, c37]; first | done | omega)) ?_
            with_reducible refine ok_ini ?_ ?_
            · exact hp (by omega)
            have hgl := hg l (by show l < hn D; omega)
            obtain ⟨z0, z1, -, -⟩ := r1.2.2.2.2.2 l _ hgl
            obtain ⟨d1, d2, d3, -, -⟩ := hdk l (by show l < hn D; omega)
            have z3 : f3 262 l = n32 (lo D 3 l) := r1.1.1.2.2.1 3 l (by omega) (by show l < hn D; omega)
            have nx := ih (l + 1) (by omega) (by omega)
            rw [sumI] at nx
            refine ok_oB (ok_eq (r_brings h3.1 (by omega) ⟨d1, d2, d3⟩ z0 z1 z3) (ok_some ?_))
            simp (disch := omega) only [n32_of, neg_n32_1, n32_nat, n32_lt, n32_le, n32_eq, n32_add, n32_sub, n32_mul, n32_m1, m1_n32, n32_addm1, m1_lt, lt_m1, m1_le, le_m1, m1_add1, ofNat_n32, u2_self, u2_n, mk_I, mk_T, ]
            exact nx
      refine ok_mono (rl N 0 (by omega) (by omega)) ?_
      rintro y _ ⟨rfl, rfl⟩
      exact ⟨rfl, IV_mk (IVx_cg hI0 (fun a k hk => (r2 a k (by have := nvS hk; omega)).trans (hv1 a k hk)))⟩
    · with_reducible refine ok_ini ?_ ?_
      · rw [mk_I, e3]
        exact hb
      refine ok_some (hQ _ _ (fail ?_))
      unfold F_X12_without J_X12_without_15
      simp only [s_isBuyer, oB_s, bI_0]
      with_reducible refine ok_ipi ?_ ?_
      · rw [mk_I, e43]
        exact hb
      exact ok_some ⟨rfl, rfl⟩
end WO
