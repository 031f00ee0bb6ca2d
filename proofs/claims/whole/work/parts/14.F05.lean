abbrev scL (s a : Nat) : Prop := a = s + 41 ∨ a = s + 43 ∨ a = s + 45 ∨ scX a
theorem XB_S {s : Nat} {f f' : Nat → Nat → Int32} {σ : aSt} {K : SP} {G : SG} (hs : isS s) (hK : KOK K) (hG : GI K G) (h : XB f σ s K G) (e : eqS (scL s) f f') : XB f' σ s K G := by
  have hs' := hs
  unfold isS at hs'
  have n24 := hK.1.1
  have m6 := hK.1.2.1
  have hnx := hG.1
  obtain ⟨x1, ⟨x2, x3, x4, x5⟩, x6, x7, x8, x9, x10⟩ := h
  refine ⟨XC_S hs hK.1 x1 (eqS_mono e (fun a ha => by omega)), ⟨(e _ _ (by omega)).trans x2, (e _ _ (by omega)).trans x3, (e _ _ (by omega)).trans x4, (e _ _ (by omega)).trans x5⟩, fun c hc => (e _ _ (by omega)).trans (x6 c hc), fun c l hc hl => ⟨(e _ _ (by omega)).trans (x7 c l hc hl).1, (e _ _ (by omega)).trans (x7 c l hc hl).2⟩, fun b hb => ?_, fun l hl => ?_, fun l r hr => ?_⟩
  · have := x8 b hb
    exact ⟨⟨(e _ _ (by omega)).trans this.1.1, fun k hk => (e _ _ (by omega)).trans (this.1.2 k hk)⟩, (e _ _ (by omega)).trans this.2.1, (e _ _ (by omega)).trans this.2.2⟩
  · have := x9 l hl
    exact ⟨(e _ _ (by omega)).trans this.1, (e _ _ (by omega)).trans this.2.1, (e _ _ (by omega)).trans this.2.2.1, (e _ _ (by omega)).trans this.2.2.2⟩
  · have hl24 : l < gnx G := Nat.lt_of_not_le (fun q => by have := hG.2.2.2.2.2.1 l q; rw [show gre G l = some r from hr] at this; cases this)
    have := x10 l r hr
    exact ⟨(e _ _ (by omega)).trans this.1, (e _ _ (by omega)).trans this.2.1, (e _ _ (by omega)).trans this.2.2.1, (e _ _ (by omega)).trans this.2.2.2⟩
theorem pre_s (s : Nat) : n32 s - n32 1 = pre s := by
  unfold pre
  by_cases h : s = 0
  · rw [if_pos h, h]
    rfl
  · rw [if_neg h, n32_sub (by omega)]
/-- the limits, done up to a clock and a buyer -/
def RfD (f0 f : Nat → Nat → Int32) (s : Nat) (K : SP) (G : SG) (c b : Nat) : Prop := eqS (scL s) f0 f ∧ ∀ c' l b', c' < 3 → gcl G c' = some l → b' < hm (kD K) → ((c' < c ∨ (c' = c ∧ b' < b)) → f (s + 40 + 2 * c' + 1) b' = limX K G l b') ∧ (¬ (c' < c ∨ (c' = c ∧ b' < b)) → f (s + 40 + 2 * c' + 1) b' = f0 (s + 40 + 2 * c' + 1) b')
theorem x_refresh1 {N s c : Nat} {σ : aSt} {K : SP} {G : SG} {f0 : Nat → Nat → Int32} {k2 : Nat → Int32 → aSt → Option (Unit × aSt)} {Q : Unit → aSt → Prop} (hN : 1000 ≤ N) (hs : isS s) (hK : KOK K) (hG : GI K G) (hsec : gsec G < 100000) (hX : XB f0 σ s K G) (hL : LF f0 s K G) (hS : SH f0 s K G) (hO : ∀ b, kO K = some b → b < 6) (hc : c < 3) (hk : ∀ f, RfD f0 f s K G (c + 1) 0 → Ok (k2 s (n32 (c + 1)) (mk σ f)) Q) : ∀ (n b : Nat) (f : Nat → Nat → Int32), hm (kD K) < n + b → b ≤ hm (kD K) → RfD f0 f s K G c b → Ok (H_X9_refreshLimits_16 N k2 n s (n32 c) (s + 40 + 2 * c) (n32 b) (mk σ f)) Q := by
  have hs' := hs
  unfold isS at hs'
  have n24 := hK.1.1
  have m6 := hK.1.2.1
  have hnx := hG.1
  intro n
  induction n with
  | zero => intro b f h1 h2; omega
  | succ n ih =>
    intro b f h1 h2 hD
    have hXf := XB_S hs hK hG hX hD.1
    obtain ⟨x1, ⟨x2, x3, x4, x5⟩, x6, x7, x8, x9, x10⟩ := hXf
    have e43 := x1.1.2.1
    have hcl := x6 c hc
    rw [H_X9_refreshLimits_16]
    unfold J_X9_refreshLimits_105 J_X9_refreshLimits_63 J_X9_refreshLimits_98 J_X9_refreshLimits_99
    by_cases hb : hm (kD K) ≤ b
    · with_reducible refine ok_ip (by first | assumption | omega | (simp (disch := omega) only [n32_of, neg_n32_1, n32_nat, n32_lt, n32_le, n32_eq, n32_add, n32_sub, n32_mul, n32_m1, m1_n32, n32_addm1, m1_lt, lt_m1, m1_le, le_m1, m1_add1, ofNat_n32, u2_self, u2_n, mk_I, mk_T, ne_eq, not_true_eq_false, not_false_eq_true, e43]; first | done | omega)) ?_
      simp (disch := omega) only [n32_of, neg_n32_1, n32_nat, n32_lt, n32_le, n32_eq, n32_add, n32_sub, n32_mul, n32_m1, m1_n32, n32_addm1, m1_lt, lt_m1, m1_le, le_m1, m1_add1, ofNat_n32, u2_self, u2_n, mk_I, mk_T, ]
      refine hk f ⟨hD.1, fun c' l b' hc' hl hb' => ?_⟩
      have := hD.2 c' l b' hc' hl hb'
      exact ⟨fun q => this.1 (by omega), fun q => this.2 (by omega)⟩
    · with_reducible refine ok_in (by first | assumption | omega | (simp (disch := omega) only [n32_of, neg_n32_1, n32_nat, n32_lt, n32_le, n32_eq, n32_add, n32_sub, n32_mul, n32_m1, m1_n32, n32_addm1, m1_lt, lt_m1, m1_le, le_m1, m1_add1, ofNat_n32, u2_self, u2_n, mk_I, mk_T, ne_eq, not_true_eq_false, not_false_eq_true, e43]; first | done | omega)) ?_
      rw [s_isEmpty, oB_s]
      cases hcc : gcl G c with
      | none =>
        rw [hcc] at hcl
        with_reducible refine ok_ip ?_ ?_
        · rw [bI_n0]
          simp (disch := omega) only [n32_of, neg_n32_1, n32_nat, n32_lt, n32_le, n32_eq, n32_add, n32_sub, n32_mul, n32_m1, m1_n32, n32_addm1, m1_lt, lt_m1, m1_le, le_m1, m1_add1, ofNat_n32, u2_self, u2_n, mk_I, mk_T, hcl]
          rfl
        simp (disch := omega) only [n32_of, neg_n32_1, n32_nat, n32_lt, n32_le, n32_eq, n32_add, n32_sub, n32_mul, n32_m1, m1_n32, n32_addm1, m1_lt, lt_m1, m1_le, le_m1, m1_add1, ofNat_n32, u2_self, u2_n, mk_I, mk_T, ]
        refine hk f ⟨hD.1, fun c' l b' hc' hl hb' => ?_⟩
        have := hD.2 c' l b' hc' hl hb'
        have hne : c' ≠ c := fun q => by rw [q, hcc] at hl; cases hl
        exact ⟨fun q => this.1 (by omega), fun q => this.2 (by omega)⟩
      | some l =>
        have hcl' : f (s + 40 + 2 * c) 0 = n32 l := by rw [hcl, hcc]; rfl
        have hlx := hG.2.2.1 c l hc hcc
        have hbm : b < hm (kD K) := by omega
        obtain ⟨t, t1, t2, t3⟩ := hL c l hc hcc
        have t1' := (hD.1 (s + 40 + 2 * c) 3 (by omega)).trans t1
        obtain ⟨o, o1, o2, o3⟩ := hS b hbm
        have o1' := (hD.1 (s + 28 + 2 * b) 4 (by omega)).trans o1
        with_reducible refine ok_in ?_ ?_
        · intro q
          rw [bI_n0] at q
          revert q
          simp (disch := omega) only [n32_of, neg_n32_1, n32_nat, n32_lt, n32_le, n32_eq, n32_add, n32_sub, n32_mul, n32_m1, m1_n32, n32_addm1, m1_lt, lt_m1, m1_le, le_m1, m1_add1, ofNat_n32, u2_self, u2_n, mk_I, mk_T, hcl']
          exact not_false
        have keep : (t ≠ gsec G → gst G b = false) → t ≠ gsec G → Ok (H_X9_refreshLimits_16 N k2 n s (n32 c) (s + 40 + 2 * c) (n32 (b + 1)) (mk σ f)) Q := by
          intro hg ht
          refine ih (b + 1) f (by omega) (by omega) ⟨hD.1, fun c' l' b' hc' hl' hb' => ?_⟩
          have := hD.2 c' l' b' hc' hl' hb'
          refine ⟨fun q => ?_, fun q => this.2 (by omega)⟩
          by_cases e : c' = c ∧ b' = b
          · obtain ⟨rfl, rfl⟩ := e
            rw [hcc] at hl'
            cases hl'
            rw [this.2 (by omega)]
            exact t3 ht b' hb' (hg ht)
          · exact this.1 (by omega)
        have put : ∀ (f1 : Nat → Nat → Int32), eqS scX f f1 → Ok (H_X9_refreshLimits_16 N k2 n s (n32 c) (s + 40 + 2 * c) (n32 (b + 1)) (mk σ (u2 f1 (s + 40 + 2 * c + 1) b (limX K G l b)))) Q := by
          intro f1 he
          refine ih (b + 1) _ (by omega) (by omega) ⟨?_, fun c' l' b' hc' hl' hb' => ?_⟩
          · exact eqS_u2 (eqS_tr hD.1 (eqS_mono he (fun a ha => by omega))) (by omega)
          · have := hD.2 c' l' b' hc' hl' hb'
            have e1 := he (s + 40 + 2 * c' + 1) b' (by omega)
            by_cases e : c' = c ∧ b' = b
            · obtain ⟨rfl, rfl⟩ := e
              rw [hcc] at hl'
              cases hl'
              exact ⟨fun _ => u2_self, fun q => absurd (Or.inr ⟨rfl, by omega⟩) q⟩
            · rw [u2_n (by omega), e1]
              exact ⟨fun q => this.1 (by omega), fun q => this.2 (by omega)⟩
        have calc' : Ok (if n32 b ≠ aI (mk σ f) s 5 then cO (¬ (n32 b < 0 ∨ 6 ≤ (n32 b).toNatClampNeg)) (oB (F_X2_limitOf N (n32 b) (aI (mk σ f) (s + 40 + 2 * c) 0) (s + 28 + 2 * (n32 b).toNatClampNeg) (mk σ f)) fun y7 σ8 => cO (¬ (n32 b < 0 ∨ 6 ≤ (n32 b).toNatClampNeg)) (lt (aWI σ8 (s + 40 + 2 * c + 1) (n32 b).toNatClampNeg y7) fun σ2 => H_X9_refreshLimits_16 N k2 n s (n32 c) (s + 40 + 2 * c) (n32 b + 1) σ2)) else cO (¬ (n32 b < 0 ∨ 6 ≤ (n32 b).toNatClampNeg)) (lt (aWI (mk σ f) (s + 40 + 2 * c + 1) (n32 b).toNatClampNeg 0) fun σ2 => H_X9_refreshLimits_16 N k2 n s (n32 c) (s + 40 + 2 * c) (n32 b + 1) σ2)) Q := by
          by_cases ho : kO K = some b
          · have hx : f s 5 = n32 b := by rw [x2, ho]; rfl
            with_reducible refine ok_in (by first | assumption | omega | (simp (disch := omega) only [n32_of, neg_n32_1, n32_nat, n32_lt, n32_le, n32_eq, n32_add, n32_sub, n32_mul, n32_m1, m1_n32, n32_addm1, m1_lt, lt_m1, m1_le, le_m1, m1_add1, ofNat_n32, u2_self, u2_n, mk_I, mk_T, ne_eq, not_true_eq_false, not_false_eq_true, hx]; first | done | omega)) ?_
            repeat (first | with_reducible refine ok_W ?_ | with_reducible refine ok_cO (by first | assumption | omega | (simp (disch := omega) only [n32_of, neg_n32_1, n32_nat, n32_lt, n32_le, n32_eq, n32_add, n32_sub, n32_mul, n32_m1, m1_n32, n32_addm1, m1_lt, lt_m1, m1_le, le_m1, m1_add1, ofNat_n32, u2_self, u2_n, mk_I, mk_T, ne_eq, not_true_eq_false, not_false_eq_true, ]; first | done | omega)) ?_ | with_reducible refine ok_ip (by first | assumption | omega | (simp (disch := omega) only [n32_of, neg_n32_1, n32_nat, n32_lt, n32_le, n32_eq, n32_add, n32_sub, n32_mul, n32_m1, m1_n32, n32_addm1, m1_lt, lt_m1, m1_le, le_m1, m1_add1, ofNat_n32, u2_self, u2_n, mk_I, mk_T, ne_eq, not_true_eq_false, not_false_eq_true, ]; first | done | omega)) ?_ | with_reducible refine ok_in (by first | assumption | omega | (simp (disch := omega) only [n32_of, neg_n32_1, n32_nat, n32_lt, n32_le, n32_eq, n32_add, n32_sub, n32_mul, n32_m1, m1_n32, n32_addm1, m1_lt, lt_m1, m1_le, le_m1, m1_add1, ofNat_n32, u2_self, u2_n, mk_I, mk_T, ne_eq, not_true_eq_false, not_false_eq_true, ]; first | done | omega)) ?_)
            simp (disch := omega) only [n32_of, neg_n32_1, n32_nat, n32_lt, n32_le, n32_eq, n32_add, n32_sub, n32_mul, n32_m1, m1_n32, n32_addm1, m1_lt, lt_m1, m1_le, le_m1, m1_add1, ofNat_n32, u2_self, u2_n, mk_I, mk_T, ]
            have := put f eqS_rfl
            unfold limX at this
            rw [if_pos ho] at this
            exact this
          · with_reducible refine ok_ip ?_ ?_
            · rw [mk_I, x2]
              cases hko : kO K with
              | none =>
                show ¬ (n32 b = m1)
                first | assumption | omega | (simp (disch := omega) only [n32_of, neg_n32_1, n32_nat, n32_lt, n32_le, n32_eq, n32_add, n32_sub, n32_mul, n32_m1, m1_n32, n32_addm1, m1_lt, lt_m1, m1_le, le_m1, m1_add1, ofNat_n32, u2_self, u2_n, mk_I, mk_T, ne_eq, not_true_eq_false, not_false_eq_true, ]; first | done | omega)
              | some j =>
                have := hO j hko
                show ¬ (n32 b = n32 j)
                rw [n32_eq (by omega) (by omega)]
                intro e
                exact ho (by rw [hko, e])
            with_reducible refine ok_cO (by first | assumption | omega | (simp (disch := omega) only [n32_of, neg_n32_1, n32_nat, n32_lt, n32_le, n32_eq, n32_add, n32_sub, n32_mul, n32_m1, m1_n32, n32_addm1, m1_lt, lt_m1, m1_le, le_m1, m1_add1, ofNat_n32, u2_self, u2_n, mk_I, mk_T, ne_eq, not_true_eq_false, not_false_eq_true, ]; first | done | omega)) ?_
            obtain ⟨y1, y2, y3⟩ := x1.2 b hbm
            simp (disch := omega) only [n32_of, neg_n32_1, n32_nat, n32_lt, n32_le, n32_eq, n32_add, n32_sub, n32_mul, n32_m1, m1_n32, n32_addm1, m1_lt, lt_m1, m1_le, le_m1, m1_add1, ofNat_n32, u2_self, u2_n, mk_I, mk_T, hcl']
            refine ok_bind (x_limit hN hK.1 x1.1 (by omega) hbm (x8 b hbm).1 (GI_PB hK hG hbm) (by omega) y2 y3 y1) (fun y σ1 hq => ?_)
            obtain ⟨rfl, f1, rfl, he1⟩ := hq
            repeat (first | with_reducible refine ok_W ?_ | with_reducible refine ok_cO (by first | assumption | omega | (simp (disch := omega) only [n32_of, neg_n32_1, n32_nat, n32_lt, n32_le, n32_eq, n32_add, n32_sub, n32_mul, n32_m1, m1_n32, n32_addm1, m1_lt, lt_m1, m1_le, le_m1, m1_add1, ofNat_n32, u2_self, u2_n, mk_I, mk_T, ne_eq, not_true_eq_false, not_false_eq_true, ]; first | done | omega)) ?_ | with_reducible refine ok_ip (by first | assumption | omega | (simp (disch := omega) only [n32_of, neg_n32_1, n32_nat, n32_lt, n32_le, n32_eq, n32_add, n32_sub, n32_mul, n32_m1, m1_n32, n32_addm1, m1_lt, lt_m1, m1_le, le_m1, m1_add1, ofNat_n32, u2_self, u2_n, mk_I, mk_T, ne_eq, not_true_eq_false, not_false_eq_true, ]; first | done | omega)) ?_ | with_reducible refine ok_in (by first | assumption | omega | (simp (disch := omega) only [n32_of, neg_n32_1, n32_nat, n32_lt, n32_le, n32_eq, n32_add, n32_sub, n32_mul, n32_m1, m1_n32, n32_addm1, m1_lt, lt_m1, m1_le, le_m1, m1_add1, ofNat_n32, u2_self, u2_n, mk_I, mk_T, ne_eq, not_true_eq_false, not_false_eq_true, ]; first | done | omega)) ?_)
            have := put f1 he1
            unfold limX at this
            rw [if_neg ho] at this
            exact this
        by_cases ht : t = gsec G
        · with_reducible refine ok_ip (by first | assumption | omega | (simp (disch := omega) only [n32_of, neg_n32_1, n32_nat, n32_lt, n32_le, n32_eq, n32_add, n32_sub, n32_mul, n32_m1, m1_n32, n32_addm1, m1_lt, lt_m1, m1_le, le_m1, m1_add1, ofNat_n32, u2_self, u2_n, mk_I, mk_T, ne_eq, not_true_eq_false, not_false_eq_true, t1', x3]; first | done | omega)) ?_
          exact calc'
        · with_reducible refine ok_in (by first | assumption | omega | (simp (disch := omega) only [n32_of, neg_n32_1, n32_nat, n32_lt, n32_le, n32_eq, n32_add, n32_sub, n32_mul, n32_m1, m1_n32, n32_addm1, m1_lt, lt_m1, m1_le, le_m1, m1_add1, ofNat_n32, u2_self, u2_n, mk_I, mk_T, ne_eq, not_true_eq_false, not_false_eq_true, t1', x3]; first | done | omega)) ?_
          with_reducible refine ok_cO (by first | assumption | omega | (simp (disch := omega) only [n32_of, neg_n32_1, n32_nat, n32_lt, n32_le, n32_eq, n32_add, n32_sub, n32_mul, n32_m1, m1_n32, n32_addm1, m1_lt, lt_m1, m1_le, le_m1, m1_add1, ofNat_n32, u2_self, u2_n, mk_I, mk_T, ne_eq, not_true_eq_false, not_false_eq_true, ]; first | done | omega)) ?_
          have hsa : aI (mk σ f) (s + 28 + 2 * (n32 b).toNatClampNeg) 4 = oI o := by simp (disch := omega) only [n32_of, neg_n32_1, n32_nat, n32_lt, n32_le, n32_eq, n32_add, n32_sub, n32_mul, n32_m1, m1_n32, n32_addm1, m1_lt, lt_m1, m1_le, le_m1, m1_add1, ofNat_n32, u2_self, u2_n, mk_I, mk_T, o1']
          have hse : aI (mk σ f) s 6 - 1 = pre (gsec G) := by
            rw [mk_I, x3]
            exact pre_s _
          rw [hsa, hse]
          with_reducible refine ok_if (fun hc => ?_) (fun hc => ?_)
          · have hg : gst G b = false := by
              cases hgb : gst G b with
              | false => rfl
              | true =>
                have := o3 hgb
                have h0 := o2 _ this
                exfalso
                apply hc
                rw [this]
                unfold pre
                rw [if_neg (by omega)]
                rfl
            have := keep (fun _ => hg) ht
            simp (disch := omega) only [n32_of, neg_n32_1, n32_nat, n32_lt, n32_le, n32_eq, n32_add, n32_sub, n32_mul, n32_m1, m1_n32, n32_addm1, m1_lt, lt_m1, m1_le, le_m1, m1_add1, ofNat_n32, u2_self, u2_n, mk_I, mk_T, ]
            exact this
          · exact calc'
theorem x_refresh {N s : Nat} {σ : aSt} {K : SP} {G : SG} {f0 : Nat → Nat → Int32} (hN : 1000 ≤ N) (hs : isS s) (hK : KOK K) (hG : GI K G) (hsec : gsec G < 100000) (hX : XB f0 σ s K G) (hL : LF f0 s K G) (hS : SH f0 s K G) (hO : ∀ b, kO K = some b → b < 6) : Ok (F_X9_refreshLimits N s (mk σ f0)) (fun _ σ' => ∃ f, σ' = mk σ f ∧ RfD f0 f s K G 3 0) := by
  have m6 := hK.1.2.1
  unfold F_X9_refreshLimits
  have main : ∀ (n c : Nat) (f : Nat → Nat → Int32), 3 < n + c → c ≤ 3 → RfD f0 f s K G c 0 → Ok (H_X9_refreshLimits_2 N n s (n32 c) (mk σ f)) (fun _ σ' => ∃ f, σ' = mk σ f ∧ RfD f0 f s K G 3 0) := by
    intro n
    induction n with
    | zero => intro c f h1 h2; omega
    | succ n ih =>
      intro c f h1 h2 hD
      rw [H_X9_refreshLimits_2]
      by_cases hc : 3 ≤ c
      · with_reducible refine ok_ip (by first | assumption | omega | (simp (disch := omega) only [n32_of, neg_n32_1, n32_nat, n32_lt, n32_le, n32_eq, n32_add, n32_sub, n32_mul, n32_m1, m1_n32, n32_addm1, m1_lt, lt_m1, m1_le, le_m1, m1_add1, ofNat_n32, u2_self, u2_n, mk_I, mk_T, ne_eq, not_true_eq_false, not_false_eq_true, ]; first | done | omega)) ?_
        rw [show c = 3 by omega] at hD
        exact ok_some ⟨f, rfl, hD⟩
      · with_reducible refine ok_in (by first | assumption | omega | (simp (disch := omega) only [n32_of, neg_n32_1, n32_nat, n32_lt, n32_le, n32_eq, n32_add, n32_sub, n32_mul, n32_m1, m1_n32, n32_addm1, m1_lt, lt_m1, m1_le, le_m1, m1_add1, ofNat_n32, u2_self, u2_n, mk_I, mk_T, ne_eq, not_true_eq_false, not_false_eq_true, ]; first | done | omega)) ?_
        with_reducible refine ok_cO (by first | assumption | omega | (simp (disch := omega) only [n32_of, neg_n32_1, n32_nat, n32_lt, n32_le, n32_eq, n32_add, n32_sub, n32_mul, n32_m1, m1_n32, n32_addm1, m1_lt, lt_m1, m1_le, le_m1, m1_add1, ofNat_n32, u2_self, u2_n, mk_I, mk_T, ne_eq, not_true_eq_false, not_false_eq_true, ]; first | done | omega)) ?_
        simp (disch := omega) only [n32_of, neg_n32_1, n32_nat, n32_lt, n32_le, n32_eq, n32_add, n32_sub, n32_mul, n32_m1, m1_n32, n32_addm1, m1_lt, lt_m1, m1_le, le_m1, m1_add1, ofNat_n32, u2_self, u2_n, mk_I, mk_T, ]
        exact x_refresh1 hN hs hK hG hsec hX hL hS hO (by omega) (fun f' hD' => ih (c + 1) f' (by omega) (by omega) hD') N 0 f (by omega) (by omega) hD
  exact main N 0 f0 (by omega) (by omega) ⟨eqS_rfl, fun c' l b' _ _ _ => ⟨fun q => by omega, fun _ => rfl⟩⟩
