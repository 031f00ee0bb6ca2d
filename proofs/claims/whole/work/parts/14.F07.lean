theorem lim_cg {D : HD} {rs : List Ru} {ha ha' : Nat → Nat → Nat} {sp sp' : Nat → Nat} {b i : Nat} (h1 : ha b = ha' b) (h2 : sp b = sp' b) : limP D rs ha sp b i = limP D rs ha' sp' b i := by
  unfold limP bv
  rw [h1, h2]
/-- the program's best is the reference's -/
theorem bst_X {K : SP} {G : SG} {l p : Nat} (hp : 1 ≤ p) (hp2 : p < 2147483648) (m : Nat) : bst (limX K G l) (fun b => !(gst G b)) (n32 p) m = bst (gLim K G l) (gOk K G) (n32 p) m := by
  have h0 : n32 0 < n32 p := by first | assumption | omega | (simp (disch := omega) only [n32_of, neg_n32_1, n32_nat, n32_lt, n32_le, n32_eq, n32_add, n32_sub, n32_mul, n32_m1, m1_n32, n32_addm1, m1_lt, lt_m1, m1_le, le_m1, m1_add1, ofNat_n32, u2_self, u2_n, mk_I, mk_T, ne_eq, not_true_eq_false, not_false_eq_true, ]; first | done | omega)
  refine bst_cg (fun b hb => ?_) (fun b hb h1 h2 => ?_)
  · unfold limX gOk
    by_cases ho : kO K = some b
    · rw [if_pos ho]
      constructor
      · intro q
        exact absurd h0 q.2
      · intro q
        rw [decide_eq_true ho] at q
        simp at q
    · rw [if_neg ho, decide_eq_false ho]
      simp
  · unfold limX at h2 ⊢
    by_cases ho : kO K = some b
    · rw [if_pos ho] at h2
      exact absurd h0 h2
    · rw [if_neg ho]
theorem x_who {N s c l : Nat} {σ : aSt} {K : SP} {G : SG} {f : Nat → Nat → Int32} (hs : isS s) (hK : KOK K) (hG : GI K G) (hsec : gsec G < 100000) (hX : XB f σ s K G) (hL : LM f s K G) (hA : SA f s K G) (hc : c < 3) (hcl : gcl G c = some l) : ∀ (n b : Nat), hm (kD K) < n + b → b ≤ hm (kD K) → Ok (H_X9_whoStops_4 N n s (s + 40 + 2 * c) (oI (bst (limX K G l) (fun b => !(gst G b)) (n32 (gcp G c)) b)) (n32 b) (mk σ f)) (fun y σ' => σ' = mk σ f ∧ y = oI (bst (limX K G l) (fun b => !(gst G b)) (n32 (gcp G c)) (hm (kD K)))) := by
  have hs' := hs
  unfold isS at hs'
  have n24 := hK.1.1
  have m6 := hK.1.2.1
  have hnx := hG.1
  obtain ⟨x1, ⟨x2, x3, x4, x5⟩, x6, x7, x8, x9, x10⟩ := hX
  have e43 := x1.1.2.1
  have ep := (x7 c l hc hcl).1
  intro n
  induction n with
  | zero => intro b h1 h2; omega
  | succ n ih =>
    intro b h1 h2
    rw [H_X9_whoStops_4]
    unfold J_X9_whoStops_48 J_X9_whoStops_49 J_X9_whoStops_76 J_X9_whoStops_78
    by_cases hb : hm (kD K) ≤ b
    · with_reducible refine ok_ip (by first | assumption | omega | (simp (disch := omega) only [n32_of, neg_n32_1, n32_nat, n32_lt, n32_le, n32_eq, n32_add, n32_sub, n32_mul, n32_m1, m1_n32, n32_addm1, m1_lt, lt_m1, m1_le, le_m1, m1_add1, ofNat_n32, u2_self, u2_n, mk_I, mk_T, ne_eq, not_true_eq_false, not_false_eq_true, e43]; first | done | omega)) ?_
      rw [show b = hm (kD K) by omega]
      exact ok_some ⟨rfl, rfl⟩
    · with_reducible refine ok_in (by first | assumption | omega | (simp (disch := omega) only [n32_of, neg_n32_1, n32_nat, n32_lt, n32_le, n32_eq, n32_add, n32_sub, n32_mul, n32_m1, m1_n32, n32_addm1, m1_lt, lt_m1, m1_le, le_m1, m1_add1, ofNat_n32, u2_self, u2_n, mk_I, mk_T, ne_eq, not_true_eq_false, not_false_eq_true, e43]; first | done | omega)) ?_
      with_reducible refine ok_cO (by first | assumption | omega | (simp (disch := omega) only [n32_of, neg_n32_1, n32_nat, n32_lt, n32_le, n32_eq, n32_add, n32_sub, n32_mul, n32_m1, m1_n32, n32_addm1, m1_lt, lt_m1, m1_le, le_m1, m1_add1, ofNat_n32, u2_self, u2_n, mk_I, mk_T, ne_eq, not_true_eq_false, not_false_eq_true, ]; first | done | omega)) ?_
      have hbm : b < hm (kD K) := by omega
      obtain ⟨o, o1, o2, o3⟩ := hA b hbm
      have hrec : bst (limX K G l) (fun b => !(gst G b)) (n32 (gcp G c)) (b + 1) = match bst (limX K G l) (fun b => !(gst G b)) (n32 (gcp G c)) b with
          | none => if (!(gst G b)) = true ∧ ¬ limX K G l b < n32 (gcp G c) then some b else none
          | some c' => if (!(gst G b)) = true ∧ ¬ limX K G l b < n32 (gcp G c) ∧ limX K G l c' < limX K G l b then some b else some c' := rfl
      have ih' := ih (b + 1) (by omega) (by omega)
      have skip : ¬ ((!(gst G b)) = true ∧ ¬ limX K G l b < n32 (gcp G c)) → Ok (H_X9_whoStops_4 N n s (s + 40 + 2 * c) (oI (bst (limX K G l) (fun b => !(gst G b)) (n32 (gcp G c)) b)) (n32 (b + 1)) (mk σ f)) (fun y σ' => σ' = mk σ f ∧ y = oI (bst (limX K G l) (fun b => !(gst G b)) (n32 (gcp G c)) (hm (kD K)))) := by
        intro hno
        have : bst (limX K G l) (fun b => !(gst G b)) (n32 (gcp G c)) (b + 1) = bst (limX K G l) (fun b => !(gst G b)) (n32 (gcp G c)) b := by
          rw [hrec]
          cases hbb : bst (limX K G l) (fun b => !(gst G b)) (n32 (gcp G c)) b with
          | none => simp only [if_neg hno]
          | some c' => simp only [if_neg (show ¬ ((!(gst G b)) = true ∧ ¬ limX K G l b < n32 (gcp G c) ∧ limX K G l c' < limX K G l b) from fun q => hno ⟨q.1, q.2.1⟩)]
        rw [this] at ih'
        exact ih'
      have hsa : aI (mk σ f) (s + 28 + 2 * (n32 b).toNatClampNeg) 4 = oI o := by simp (disch := omega) only [n32_of, neg_n32_1, n32_nat, n32_lt, n32_le, n32_eq, n32_add, n32_sub, n32_mul, n32_m1, m1_n32, n32_addm1, m1_lt, lt_m1, m1_le, le_m1, m1_add1, ofNat_n32, u2_self, u2_n, mk_I, mk_T, o1]
      have hse : aI (mk σ f) s 6 = n32 (gsec G) := x3
      rw [hsa, hse]
      by_cases hst : gst G b = true
      · with_reducible refine ok_ip ?_ ?_
        · rw [o3.mp hst]
          rfl
        with_reducible refine ok_ip (by first | assumption | omega | (simp (disch := omega) only [n32_of, neg_n32_1, n32_nat, n32_lt, n32_le, n32_eq, n32_add, n32_sub, n32_mul, n32_m1, m1_n32, n32_addm1, m1_lt, lt_m1, m1_le, le_m1, m1_add1, ofNat_n32, u2_self, u2_n, mk_I, mk_T, ne_eq, not_true_eq_false, not_false_eq_true, ]; first | done | omega)) ?_
        simp (disch := omega) only [n32_of, neg_n32_1, n32_nat, n32_lt, n32_le, n32_eq, n32_add, n32_sub, n32_mul, n32_m1, m1_n32, n32_addm1, m1_lt, lt_m1, m1_le, le_m1, m1_add1, ofNat_n32, u2_self, u2_n, mk_I, mk_T, ]
        exact skip (fun q => by rw [hst] at q; simp at q)
      · have hgf : gst G b = false := by
          cases h : gst G b
          · rfl
          · exact absurd h hst
        with_reducible refine ok_in ?_ ?_
        · intro q
          cases ho : o with
          | none =>
            rw [ho] at q
            have q' : m1 = n32 (gsec G) := q
            rw [m1_n32 (by omega)] at q'
            exact q'
          | some t =>
            have ht := o2 t ho
            rw [ho] at q
            have q' : n32 t = n32 (gsec G) := q
            rw [n32_eq (by omega) (by omega)] at q'
            exact hst (o3.mpr (by rw [ho, q']))
        with_reducible refine ok_cO (by first | assumption | omega | (simp (disch := omega) only [n32_of, neg_n32_1, n32_nat, n32_lt, n32_le, n32_eq, n32_add, n32_sub, n32_mul, n32_m1, m1_n32, n32_addm1, m1_lt, lt_m1, m1_le, le_m1, m1_add1, ofNat_n32, u2_self, u2_n, mk_I, mk_T, ne_eq, not_true_eq_false, not_false_eq_true, ]; first | done | omega)) ?_
        have hlb := hL c l hc hcl b hbm hgf
        have hl1 : aI (mk σ f) (s + 40 + 2 * c + 1) (n32 b).toNatClampNeg = limX K G l b := by simp (disch := omega) only [n32_of, neg_n32_1, n32_nat, n32_lt, n32_le, n32_eq, n32_add, n32_sub, n32_mul, n32_m1, m1_n32, n32_addm1, m1_lt, lt_m1, m1_le, le_m1, m1_add1, ofNat_n32, u2_self, u2_n, mk_I, mk_T, hlb]
        have hp1 : aI (mk σ f) (s + 40 + 2 * c) 1 = n32 (gcp G c) := ep
        rw [hl1, hp1]
        by_cases hlt : limX K G l b < n32 (gcp G c)
        · with_reducible refine ok_ip ?_ ?_
          · exact hlt
          with_reducible refine ok_ip (by first | assumption | omega | (simp (disch := omega) only [n32_of, neg_n32_1, n32_nat, n32_lt, n32_le, n32_eq, n32_add, n32_sub, n32_mul, n32_m1, m1_n32, n32_addm1, m1_lt, lt_m1, m1_le, le_m1, m1_add1, ofNat_n32, u2_self, u2_n, mk_I, mk_T, ne_eq, not_true_eq_false, not_false_eq_true, ]; first | done | omega)) ?_
          simp (disch := omega) only [n32_of, neg_n32_1, n32_nat, n32_lt, n32_le, n32_eq, n32_add, n32_sub, n32_mul, n32_m1, m1_n32, n32_addm1, m1_lt, lt_m1, m1_le, le_m1, m1_add1, ofNat_n32, u2_self, u2_n, mk_I, mk_T, ]
          exact skip (fun q => q.2 hlt)
        · with_reducible refine ok_in ?_ ?_
          · exact hlt
          with_reducible refine ok_in (by first | assumption | omega | (simp (disch := omega) only [n32_of, neg_n32_1, n32_nat, n32_lt, n32_le, n32_eq, n32_add, n32_sub, n32_mul, n32_m1, m1_n32, n32_addm1, m1_lt, lt_m1, m1_le, le_m1, m1_add1, ofNat_n32, u2_self, u2_n, mk_I, mk_T, ne_eq, not_true_eq_false, not_false_eq_true, ]; first | done | omega)) ?_
          cases hbb : bst (limX K G l) (fun b => !(gst G b)) (n32 (gcp G c)) b with
          | none =>
            with_reducible refine ok_ip ?_ ?_
            · rfl
            rw [hbb] at hrec
            simp only [if_pos (show (!(gst G b)) = true ∧ ¬ limX K G l b < n32 (gcp G c) from ⟨by rw [hgf]; rfl, hlt⟩)] at hrec
            rw [hrec] at ih'
            simp (disch := omega) only [n32_of, neg_n32_1, n32_nat, n32_lt, n32_le, n32_eq, n32_add, n32_sub, n32_mul, n32_m1, m1_n32, n32_addm1, m1_lt, lt_m1, m1_le, le_m1, m1_add1, ofNat_n32, u2_self, u2_n, mk_I, mk_T, ]
            exact ih'
          | some c' =>
            have hc' := bst_some hbb
            have hgc : gst G c' = false := by
              have := hc'.2.1
              cases h : gst G c'
              · rfl
              · rw [h] at this; simp at this
            have hlc := hL c l hc hcl c' (by omega) hgc
            with_reducible refine ok_in ?_ ?_
            · exact oI_ne (by omega)
            rw [hbb] at hrec
            with_reducible refine ok_cO (by first | assumption | omega | (simp (disch := omega) only [n32_of, neg_n32_1, n32_nat, n32_lt, n32_le, n32_eq, n32_add, n32_sub, n32_mul, n32_m1, m1_n32, n32_addm1, m1_lt, lt_m1, m1_le, le_m1, m1_add1, ofNat_n32, u2_self, u2_n, mk_I, mk_T, ne_eq, not_true_eq_false, not_false_eq_true, ]; first | done | omega)) ?_
            with_reducible refine ok_cO (by first | assumption | omega | (simp (disch := omega) only [n32_of, neg_n32_1, n32_nat, n32_lt, n32_le, n32_eq, n32_add, n32_sub, n32_mul, n32_m1, m1_n32, n32_addm1, m1_lt, lt_m1, m1_le, le_m1, m1_add1, ofNat_n32, u2_self, u2_n, mk_I, mk_T, ne_eq, not_true_eq_false, not_false_eq_true, oI_s]; first | done | omega)) ?_
            have hl2 : aI (mk σ f) (s + 40 + 2 * c + 1) (oI (some c')).toNatClampNeg = limX K G l c' := by simp (disch := omega) only [n32_of, neg_n32_1, n32_nat, n32_lt, n32_le, n32_eq, n32_add, n32_sub, n32_mul, n32_m1, m1_n32, n32_addm1, m1_lt, lt_m1, m1_le, le_m1, m1_add1, ofNat_n32, u2_self, u2_n, mk_I, mk_T, oI_s, hlc]
            rw [hl2]
            by_cases hcmp : limX K G l c' < limX K G l b
            · with_reducible refine ok_in ?_ ?_
              · exact Int32.not_le.mpr hcmp
              simp only [if_pos (show (!(gst G b)) = true ∧ ¬ limX K G l b < n32 (gcp G c) ∧ limX K G l c' < limX K G l b from ⟨by rw [hgf]; rfl, hlt, hcmp⟩)] at hrec
              rw [hrec] at ih'
              simp (disch := omega) only [n32_of, neg_n32_1, n32_nat, n32_lt, n32_le, n32_eq, n32_add, n32_sub, n32_mul, n32_m1, m1_n32, n32_addm1, m1_lt, lt_m1, m1_le, le_m1, m1_add1, ofNat_n32, u2_self, u2_n, mk_I, mk_T, ]
              exact ih'
            · with_reducible refine ok_ip ?_ ?_
              · exact Int32.not_lt.mp hcmp
              simp only [if_neg (show ¬ ((!(gst G b)) = true ∧ ¬ limX K G l b < n32 (gcp G c) ∧ limX K G l c' < limX K G l b) from fun q => hcmp q.2.2)] at hrec
              rw [hrec] at ih'
              simp (disch := omega) only [n32_of, neg_n32_1, n32_nat, n32_lt, n32_le, n32_eq, n32_add, n32_sub, n32_mul, n32_m1, m1_n32, n32_addm1, m1_lt, lt_m1, m1_le, le_m1, m1_add1, ofNat_n32, u2_self, u2_n, mk_I, mk_T, ]
              exact ih'
