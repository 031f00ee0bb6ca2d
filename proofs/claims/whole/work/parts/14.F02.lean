abbrev scS (a : Nat) : Prop := 274 ≤ a ∧ a ≤ 286
def RC (f : Nat → Nat → Int32) (K : SP) : Prop := HR f (kD K) ∧ ∀ b, b < hm (kD K) → okT (kT K b) ∧ ∃ l, l < 2 ∧ f 243 (b + 1) = n32 l ∧ RT f (2 * (b + 1) + l) (kT K b)
theorem RC_S {f f' : Nat → Nat → Int32} {K : SP} (h : RC f K) (e : eqS scS f f') : RC f' K := by
  refine ⟨HR_S h.1 e (by omega) (fun a h1 h2 => by omega), fun b hb => ?_⟩
  obtain ⟨h1, l, h2, h3, h4⟩ := h.2 b hb
  exact ⟨h1, l, h2, (e _ _ (by omega)).trans h3, RT_S h4 e (fun a h1 h2 => by omega)⟩
def RS (f : Nat → Nat → Int32) (K : SP) (G : SG) : Prop := RC f K ∧ NR f (gha G) (gsp G) ∧ (∀ c, c < 3 → f 278 c = oI (gcl G c)) ∧ (∀ c, c < 3 → gcl G c ≠ none → f 279 c = n32 (gcp G c)) ∧ (∀ l, l < hn (kD K) → f 284 l = n32 (kS K l) ∧ f 285 l = n32 (kL K l)) ∧ ∀ l r, gre G l = some r → f 280 l = oI r.1 ∧ f 281 l = n32 r.2.1 ∧ f 282 l = n32 r.2.2.1 ∧ f 283 l = n32 r.2.2.2
def HS (f : Nat → Nat → Int32) (K : SP) (G : SG) : Prop := ∀ b, b < 6 → f 286 b = bB (gst G b || decide (kO K = some b))
/-- the scratch of a text leaves all that -/
theorem RS_sc {f f' : Nat → Nat → Int32} {K : SP} {G : SG} (h : RS f K G) (e : eqS scR f f') : RS f' K G := by
  obtain ⟨h1, h2, h3, h4, h5, h6⟩ := h
  refine ⟨RC_S h1 (eqS_mono e (fun a ha => by omega)), NR_S h2 e (by omega) (by omega), fun c hc => (e _ _ (by omega)).trans (h3 c hc), fun c hc hn => (e _ _ (by omega)).trans (h4 c hc hn), fun l hl => ⟨(e _ _ (by omega)).trans (h5 l hl).1, (e _ _ (by omega)).trans (h5 l hl).2⟩, fun l r hr => ?_⟩
  have := h6 l r hr
  exact ⟨(e _ _ (by omega)).trans this.1, (e _ _ (by omega)).trans this.2.1, (e _ _ (by omega)).trans this.2.2.1, (e _ _ (by omega)).trans this.2.2.2⟩
theorem HS_sc {f f' : Nat → Nat → Int32} {K : SP} {G : SG} (h : HS f K G) (e : eqS scR f f') : HS f' K G := fun b hb => (e _ _ (by omega)).trans (h b hb)
theorem GI_PB {K : SP} {G : SG} (hK : KOK K) (h : GI K G) {b : Nat} (hb : b < hm (kD K)) : PB (kD K) (gha G) (gsp G) b := by
  have h7 := h.2.2.2.2.2.2.1
  have h1 := h.1
  have h2 := h.2.1
  have n24 := hK.1.1
  refine ⟨fun k hk => ?_, h7.2.1 b hb⟩
  have := h7.1 b k
  omega
theorem oI_ne {l : Nat} (h : l < 1000) : ¬ n32 l = -1 := by
  have := n32_m1 (i := l) (by omega)
  intro e
  rw [show (-1 : Int32) = m1 from rfl, this] at e
  exact e
section RSALE
variable {N : Nat} {σ : aSt} {K : SP} {x1 : Int32} {k : Int32 → Int32 → Int32 → Int32 → aSt → Option (Int32 × aSt)} {Q : Int32 → aSt → Prop}
theorem r_fillc {n c sec : Nat} {x3 x4 : Int32} {f : Nat → Nat → Int32} {G : SG} (hK : KOK K) (hG : GI K G) (hR : RS f K G) (hc : c < 3) (hn0 : 0 < n) (h : ∀ f', RS f' K (gFill K c G) → eqS scS f f' → Ok (H_X12_goes_127 N k (n - 1) x1 (n32 (gnx (gFill K c G))) x3 x4 (n32 (c + 1)) (mk σ f')) Q) : Ok (H_X12_goes_127 N k n x1 (n32 (gnx G)) x3 x4 (n32 c) (mk σ f)) Q := by
  obtain ⟨n, rfl⟩ : ∃ m, n = m + 1 := ⟨n - 1, by omega⟩
  have hR0 := hR
  obtain ⟨h1, h2, h3, h4, h5, h6⟩ := hR
  have e37 := h1.1.1
  have n24 := hK.1.1
  have hnx := hG.1
  have hcl := h3 c hc
  rw [H_X12_goes_127]
  unfold J_X12_goes_179
  rw [Nat.add_sub_cancel] at h
  with_reducible refine ok_in (by first | assumption | omega | (simp (disch := omega) only [n32_of, neg_n32_1, n32_nat, n32_lt, n32_le, n32_eq, n32_add, n32_sub, n32_mul, n32_m1, m1_n32, n32_addm1, m1_lt, lt_m1, m1_le, le_m1, m1_add1, ofNat_n32, u2_self, u2_n, mk_I, mk_T, ne_eq, not_true_eq_false, not_false_eq_true, ]; first | done | omega)) ?_
  with_reducible refine ok_cO (by first | assumption | omega | (simp (disch := omega) only [n32_of, neg_n32_1, n32_nat, n32_lt, n32_le, n32_eq, n32_add, n32_sub, n32_mul, n32_m1, m1_n32, n32_addm1, m1_lt, lt_m1, m1_le, le_m1, m1_add1, ofNat_n32, u2_self, u2_n, mk_I, mk_T, ne_eq, not_true_eq_false, not_false_eq_true, ]; first | done | omega)) ?_
  unfold gFill at h
  by_cases hf : gcl G c = none ∧ gnx G < hn (kD K)
  · rw [if_pos hf] at h
    rw [hf.1] at hcl
    have hst := (h5 (gnx G) hf.2).1
    have hk := hK.2 (gnx G) hf.2
    with_reducible refine ok_in ?_ ?_
    · simp (disch := omega) only [n32_of, neg_n32_1, n32_nat, n32_lt, n32_le, n32_eq, n32_add, n32_sub, n32_mul, n32_m1, m1_n32, n32_addm1, m1_lt, lt_m1, m1_le, le_m1, m1_add1, ofNat_n32, u2_self, u2_n, mk_I, mk_T, hcl]
      exact fun q => q rfl
    with_reducible refine ok_ip (by first | assumption | omega | (simp (disch := omega) only [n32_of, neg_n32_1, n32_nat, n32_lt, n32_le, n32_eq, n32_add, n32_sub, n32_mul, n32_m1, m1_n32, n32_addm1, m1_lt, lt_m1, m1_le, le_m1, m1_add1, ofNat_n32, u2_self, u2_n, mk_I, mk_T, ne_eq, not_true_eq_false, not_false_eq_true, e37]; first | done | omega)) ?_
    repeat (first | with_reducible refine ok_W ?_ | with_reducible refine ok_cO (by first | assumption | omega | (simp (disch := omega) only [n32_of, neg_n32_1, n32_nat, n32_lt, n32_le, n32_eq, n32_add, n32_sub, n32_mul, n32_m1, m1_n32, n32_addm1, m1_lt, lt_m1, m1_le, le_m1, m1_add1, ofNat_n32, u2_self, u2_n, mk_I, mk_T, ne_eq, not_true_eq_false, not_false_eq_true, ]; first | done | omega)) ?_ | with_reducible refine ok_ip (by first | assumption | omega | (simp (disch := omega) only [n32_of, neg_n32_1, n32_nat, n32_lt, n32_le, n32_eq, n32_add, n32_sub, n32_mul, n32_m1, m1_n32, n32_addm1, m1_lt, lt_m1, m1_le, le_m1, m1_add1, ofNat_n32, u2_self, u2_n, mk_I, mk_T, ne_eq, not_true_eq_false, not_false_eq_true, ]; first | done | omega)) ?_ | with_reducible refine ok_in (by first | assumption | omega | (simp (disch := omega) only [n32_of, neg_n32_1, n32_nat, n32_lt, n32_le, n32_eq, n32_add, n32_sub, n32_mul, n32_m1, m1_n32, n32_addm1, m1_lt, lt_m1, m1_le, le_m1, m1_add1, ofNat_n32, u2_self, u2_n, mk_I, mk_T, ne_eq, not_true_eq_false, not_false_eq_true, ]; first | done | omega)) ?_)
    simp (disch := omega) only [n32_of, neg_n32_1, n32_nat, n32_lt, n32_le, n32_eq, n32_add, n32_sub, n32_mul, n32_m1, m1_n32, n32_addm1, m1_lt, lt_m1, m1_le, le_m1, m1_add1, ofNat_n32, u2_self, u2_n, mk_I, mk_T, hst]
    refine h _ ⟨RC_S h1 ?_, ?_, ?_, ?_, ?_, ?_⟩ ?_
    · exact eqS_u2 (eqS_u2 eqS_rfl (by omega)) (by omega)
    · exact NR_S (S := fun a => a = 278 ∨ a = 279) h2 (eqS_u2 (eqS_u2 eqS_rfl (by omega)) (by omega)) (by omega) (by omega)
    · intro c' hc'
      show _ = oI (fu (gcl G) c (some (gnx G)) c')
      by_cases e : c' = c
      · subst e
        rw [fu_at]
        simp (disch := omega) only [n32_of, neg_n32_1, n32_nat, n32_lt, n32_le, n32_eq, n32_add, n32_sub, n32_mul, n32_m1, m1_n32, n32_addm1, m1_lt, lt_m1, m1_le, le_m1, m1_add1, ofNat_n32, u2_self, u2_n, mk_I, mk_T, ]
        rfl
      · rw [fu_ne e]
        simp (disch := omega) only [n32_of, neg_n32_1, n32_nat, n32_lt, n32_le, n32_eq, n32_add, n32_sub, n32_mul, n32_m1, m1_n32, n32_addm1, m1_lt, lt_m1, m1_le, le_m1, m1_add1, ofNat_n32, u2_self, u2_n, mk_I, mk_T, ]
        exact h3 c' hc'
    · intro c' hc' hne
      show _ = n32 (fu (gcp G) c (kS K (gnx G)) c')
      by_cases e : c' = c
      · subst e
        rw [fu_at]
        simp (disch := omega) only [n32_of, neg_n32_1, n32_nat, n32_lt, n32_le, n32_eq, n32_add, n32_sub, n32_mul, n32_m1, m1_n32, n32_addm1, m1_lt, lt_m1, m1_le, le_m1, m1_add1, ofNat_n32, u2_self, u2_n, mk_I, mk_T, ]
      · rw [fu_ne e]
        simp (disch := omega) only [n32_of, neg_n32_1, n32_nat, n32_lt, n32_le, n32_eq, n32_add, n32_sub, n32_mul, n32_m1, m1_n32, n32_addm1, m1_lt, lt_m1, m1_le, le_m1, m1_add1, ofNat_n32, u2_self, u2_n, mk_I, mk_T, ]
        refine h4 c' hc' (fun q => hne ?_)
        show fu (gcl G) c (some (gnx G)) c' = none
        rw [fu_ne e]
        exact q
    · intro l hl
      simp (disch := omega) only [n32_of, neg_n32_1, n32_nat, n32_lt, n32_le, n32_eq, n32_add, n32_sub, n32_mul, n32_m1, m1_n32, n32_addm1, m1_lt, lt_m1, m1_le, le_m1, m1_add1, ofNat_n32, u2_self, u2_n, mk_I, mk_T, ]
      exact h5 l hl
    · intro l r hr
      simp (disch := omega) only [n32_of, neg_n32_1, n32_nat, n32_lt, n32_le, n32_eq, n32_add, n32_sub, n32_mul, n32_m1, m1_n32, n32_addm1, m1_lt, lt_m1, m1_le, le_m1, m1_add1, ofNat_n32, u2_self, u2_n, mk_I, mk_T, ]
      exact h6 l r hr
    · exact eqS_u2 (eqS_u2 eqS_rfl (by omega)) (by omega)
  · rw [if_neg hf] at h
    cases hcc : gcl G c with
    | none =>
      rw [hcc] at hcl
      have : ¬ gnx G < hn (kD K) := fun q => hf ⟨hcc, q⟩
      with_reducible refine ok_in ?_ ?_
      · simp (disch := omega) only [n32_of, neg_n32_1, n32_nat, n32_lt, n32_le, n32_eq, n32_add, n32_sub, n32_mul, n32_m1, m1_n32, n32_addm1, m1_lt, lt_m1, m1_le, le_m1, m1_add1, ofNat_n32, u2_self, u2_n, mk_I, mk_T, hcl]
        exact fun q => q rfl
      with_reducible refine ok_in (by first | assumption | omega | (simp (disch := omega) only [n32_of, neg_n32_1, n32_nat, n32_lt, n32_le, n32_eq, n32_add, n32_sub, n32_mul, n32_m1, m1_n32, n32_addm1, m1_lt, lt_m1, m1_le, le_m1, m1_add1, ofNat_n32, u2_self, u2_n, mk_I, mk_T, ne_eq, not_true_eq_false, not_false_eq_true, e37]; first | done | omega)) ?_
      simp (disch := omega) only [n32_of, neg_n32_1, n32_nat, n32_lt, n32_le, n32_eq, n32_add, n32_sub, n32_mul, n32_m1, m1_n32, n32_addm1, m1_lt, lt_m1, m1_le, le_m1, m1_add1, ofNat_n32, u2_self, u2_n, mk_I, mk_T, ]
      exact h f hR0 eqS_rfl
    | some l =>
      rw [hcc] at hcl
      have hl := (hG.2.2.1 c l hc hcc).1
      with_reducible refine ok_ip ?_ ?_
      · simp (disch := omega) only [n32_of, neg_n32_1, n32_nat, n32_lt, n32_le, n32_eq, n32_add, n32_sub, n32_mul, n32_m1, m1_n32, n32_addm1, m1_lt, lt_m1, m1_le, le_m1, m1_add1, ofNat_n32, u2_self, u2_n, mk_I, mk_T, hcl]
        show ¬ (n32 l = m1)
        first | assumption | omega | (simp (disch := omega) only [n32_of, neg_n32_1, n32_nat, n32_lt, n32_le, n32_eq, n32_add, n32_sub, n32_mul, n32_m1, m1_n32, n32_addm1, m1_lt, lt_m1, m1_le, le_m1, m1_add1, ofNat_n32, u2_self, u2_n, mk_I, mk_T, ne_eq, not_true_eq_false, not_false_eq_true, ]; first | done | omega)
      simp (disch := omega) only [n32_of, neg_n32_1, n32_nat, n32_lt, n32_le, n32_eq, n32_add, n32_sub, n32_mul, n32_m1, m1_n32, n32_addm1, m1_lt, lt_m1, m1_le, le_m1, m1_add1, ofNat_n32, u2_self, u2_n, mk_I, mk_T, ]
      exact h f hR0 eqS_rfl
theorem r_rest {x2 x3 x4 : Int32} {f0 : Nat → Nat → Int32} {G : SG} (hK : KOK K) (hR : RS f0 K G) (hx1 : x1 = oI (kO K)) (hO : ∀ b, kO K = some b → b < 6) (h : ∀ f', RS f' K (gRest G) → HS f' K (gRest G) → eqS scS f0 f' → Ok (H_X12_goes_222 N k N x1 x2 x3 x4 (n32 0) (mk σ f')) Q) : ∀ (n b : Nat) (f : Nat → Nat → Int32), 6 < n + b → b ≤ 6 → eqx f0 f 286 → (∀ b', b' < b → f 286 b' = bB (decide (kO K = some b'))) → Ok (H_X12_goes_188 N k n x1 x2 x3 x4 (n32 b) (mk σ f)) Q := by
  intro n
  induction n with
  | zero => intro b f h1 h2; omega
  | succ n ih =>
    intro b f h1 h2 h3 h4
    rw [H_X12_goes_188]
    unfold J_X12_goes_212
    by_cases hb : 6 ≤ b
    · with_reducible refine ok_ip (by first | assumption | omega | (simp (disch := omega) only [n32_of, neg_n32_1, n32_nat, n32_lt, n32_le, n32_eq, n32_add, n32_sub, n32_mul, n32_m1, m1_n32, n32_addm1, m1_lt, lt_m1, m1_le, le_m1, m1_add1, ofNat_n32, u2_self, u2_n, mk_I, mk_T, ne_eq, not_true_eq_false, not_false_eq_true, ]; first | done | omega)) ?_
      have heS : eqS scS f0 f := eqx_S h3 (by omega)
      refine h f ?_ (fun b' hb' => ?_) heS
      · obtain ⟨g1, g2, g3, g4, g5, g6⟩ := hR
        refine ⟨RC_S g1 heS, NR_S (S := fun a => a = 286) g2 (eqx_S h3 rfl) (by omega) (by omega), fun c hc => (h3 _ _ (by omega)).trans (g3 c hc), fun c hc hn => (h3 _ _ (by omega)).trans (g4 c hc hn), fun l hl => ⟨(h3 _ _ (by omega)).trans (g5 l hl).1, (h3 _ _ (by omega)).trans (g5 l hl).2⟩, fun l r hr => ?_⟩
        have := g6 l r hr
        exact ⟨(h3 _ _ (by omega)).trans this.1, (h3 _ _ (by omega)).trans this.2.1, (h3 _ _ (by omega)).trans this.2.2.1, (h3 _ _ (by omega)).trans this.2.2.2⟩
      · rw [h4 b' (by omega)]
        rfl
    · with_reducible refine ok_in (by first | assumption | omega | (simp (disch := omega) only [n32_of, neg_n32_1, n32_nat, n32_lt, n32_le, n32_eq, n32_add, n32_sub, n32_mul, n32_m1, m1_n32, n32_addm1, m1_lt, lt_m1, m1_le, le_m1, m1_add1, ofNat_n32, u2_self, u2_n, mk_I, mk_T, ne_eq, not_true_eq_false, not_false_eq_true, ]; first | done | omega)) ?_
      have step : ∀ v : Bool, v = decide (kO K = some b) → Ok (H_X12_goes_188 N k n x1 x2 x3 x4 (n32 (b + 1)) (mk σ (u2 f 286 b (bB v)))) Q := by
        intro v hv
        refine ih (b + 1) _ (by omega) (by omega) (fun a j ha => ?_) (fun b' hb' => ?_)
        · simp (disch := omega) only [n32_of, neg_n32_1, n32_nat, n32_lt, n32_le, n32_eq, n32_add, n32_sub, n32_mul, n32_m1, m1_n32, n32_addm1, m1_lt, lt_m1, m1_le, le_m1, m1_add1, ofNat_n32, u2_self, u2_n, mk_I, mk_T, ]
          exact h3 a j ha
        · by_cases e : b' = b
          · subst e
            rw [u2_self, hv]
          · rw [u2_n (by omega)]
            exact h4 b' (by omega)
      by_cases ho : kO K = some b
      · with_reducible refine ok_in ?_ ?_
        · rw [hx1, ho]
          exact fun q => q rfl
        with_reducible refine ok_cO (by first | assumption | omega | (simp (disch := omega) only [n32_of, neg_n32_1, n32_nat, n32_lt, n32_le, n32_eq, n32_add, n32_sub, n32_mul, n32_m1, m1_n32, n32_addm1, m1_lt, lt_m1, m1_le, le_m1, m1_add1, ofNat_n32, u2_self, u2_n, mk_I, mk_T, ne_eq, not_true_eq_false, not_false_eq_true, ]; first | done | omega)) ?_
        repeat (first | with_reducible refine ok_W ?_ | with_reducible refine ok_cO (by first | assumption | omega | (simp (disch := omega) only [n32_of, neg_n32_1, n32_nat, n32_lt, n32_le, n32_eq, n32_add, n32_sub, n32_mul, n32_m1, m1_n32, n32_addm1, m1_lt, lt_m1, m1_le, le_m1, m1_add1, ofNat_n32, u2_self, u2_n, mk_I, mk_T, ne_eq, not_true_eq_false, not_false_eq_true, ]; first | done | omega)) ?_ | with_reducible refine ok_ip (by first | assumption | omega | (simp (disch := omega) only [n32_of, neg_n32_1, n32_nat, n32_lt, n32_le, n32_eq, n32_add, n32_sub, n32_mul, n32_m1, m1_n32, n32_addm1, m1_lt, lt_m1, m1_le, le_m1, m1_add1, ofNat_n32, u2_self, u2_n, mk_I, mk_T, ne_eq, not_true_eq_false, not_false_eq_true, ]; first | done | omega)) ?_ | with_reducible refine ok_in (by first | assumption | omega | (simp (disch := omega) only [n32_of, neg_n32_1, n32_nat, n32_lt, n32_le, n32_eq, n32_add, n32_sub, n32_mul, n32_m1, m1_n32, n32_addm1, m1_lt, lt_m1, m1_le, le_m1, m1_add1, ofNat_n32, u2_self, u2_n, mk_I, mk_T, ne_eq, not_true_eq_false, not_false_eq_true, ]; first | done | omega)) ?_)
        have := step true (by rw [decide_eq_true ho])
        simp (disch := omega) only [n32_of, neg_n32_1, n32_nat, n32_lt, n32_le, n32_eq, n32_add, n32_sub, n32_mul, n32_m1, m1_n32, n32_addm1, m1_lt, lt_m1, m1_le, le_m1, m1_add1, ofNat_n32, u2_self, u2_n, mk_I, mk_T, ]
        exact this
      · with_reducible refine ok_ip ?_ ?_
        · rw [hx1]
          cases hko : kO K with
          | none =>
            show ¬ (n32 b = m1)
            first | assumption | omega | (simp (disch := omega) only [n32_of, neg_n32_1, n32_nat, n32_lt, n32_le, n32_eq, n32_add, n32_sub, n32_mul, n32_m1, m1_n32, n32_addm1, m1_lt, lt_m1, m1_le, le_m1, m1_add1, ofNat_n32, u2_self, u2_n, mk_I, mk_T, ne_eq, not_true_eq_false, not_false_eq_true, ]; first | done | omega)
          | some j =>
            have := hO j hko
            show ¬ (n32 b = n32 j)
            rw [n32_eq (by omega) (by omega)]
            intro e
            exact ho (by rw [hko, e])
        with_reducible refine ok_cO (by first | assumption | omega | (simp (disch := omega) only [n32_of, neg_n32_1, n32_nat, n32_lt, n32_le, n32_eq, n32_add, n32_sub, n32_mul, n32_m1, m1_n32, n32_addm1, m1_lt, lt_m1, m1_le, le_m1, m1_add1, ofNat_n32, u2_self, u2_n, mk_I, mk_T, ne_eq, not_true_eq_false, not_false_eq_true, ]; first | done | omega)) ?_
        repeat (first | with_reducible refine ok_W ?_ | with_reducible refine ok_cO (by first | assumption | omega | (simp (disch := omega) only [n32_of, neg_n32_1, n32_nat, n32_lt, n32_le, n32_eq, n32_add, n32_sub, n32_mul, n32_m1, m1_n32, n32_addm1, m1_lt, lt_m1, m1_le, le_m1, m1_add1, ofNat_n32, u2_self, u2_n, mk_I, mk_T, ne_eq, not_true_eq_false, not_false_eq_true, ]; first | done | omega)) ?_ | with_reducible refine ok_ip (by first | assumption | omega | (simp (disch := omega) only [n32_of, neg_n32_1, n32_nat, n32_lt, n32_le, n32_eq, n32_add, n32_sub, n32_mul, n32_m1, m1_n32, n32_addm1, m1_lt, lt_m1, m1_le, le_m1, m1_add1, ofNat_n32, u2_self, u2_n, mk_I, mk_T, ne_eq, not_true_eq_false, not_false_eq_true, ]; first | done | omega)) ?_ | with_reducible refine ok_in (by first | assumption | omega | (simp (disch := omega) only [n32_of, neg_n32_1, n32_nat, n32_lt, n32_le, n32_eq, n32_add, n32_sub, n32_mul, n32_m1, m1_n32, n32_addm1, m1_lt, lt_m1, m1_le, le_m1, m1_add1, ofNat_n32, u2_self, u2_n, mk_I, mk_T, ne_eq, not_true_eq_false, not_false_eq_true, ]; first | done | omega)) ?_)
        have := step false (by rw [decide_eq_false ho])
        simp (disch := omega) only [n32_of, neg_n32_1, n32_nat, n32_lt, n32_le, n32_eq, n32_add, n32_sub, n32_mul, n32_m1, m1_n32, n32_addm1, m1_lt, lt_m1, m1_le, le_m1, m1_add1, ofNat_n32, u2_self, u2_n, mk_I, mk_T, ]
        exact this
theorem r_best {c l sec : Nat} {f0 : Nat → Nat → Int32} {G : SG} (hN : 10000 ≤ N) (hK : KOK K) (hG : GI K G) (hR : RS f0 K G) (hH : HS f0 K G) (hc : c < 3) (hcl : gcl G c = some l) {Q' : Int32 → aSt → Prop} (h : ∀ f, eqS scR f0 f → Ok (H_X12_stops_16 N 1 (n32 c) (n32 sec) (n32 l) (oI (bst (gLim K G l) (gOk K G) (n32 (gcp G c)) (hm (kD K)))) (n32 0) (n32 (hm (kD K))) (mk σ f)) Q') : ∀ (n b : Nat) (f : Nat → Nat → Int32) (x5 : Int32), hm (kD K) < n + b → b ≤ hm (kD K) → eqS scR f0 f → (∀ b', bst (gLim K G l) (gOk K G) (n32 (gcp G c)) b = some b' → x5 = gLim K G l b') → Ok (H_X12_stops_16 N n (n32 c) (n32 sec) (n32 l) (oI (bst (gLim K G l) (gOk K G) (n32 (gcp G c)) b)) x5 (n32 b) (mk σ f)) Q' := by
  have m6 := hK.1.2.1
  intro n
  induction n with
  | zero => intro b f x5 h1 h2; omega
  | succ n ih =>
    intro b f x5 h1 h2 he hx
    have hRf := RS_sc hR he
    have hHf := HS_sc hH he
    obtain ⟨g1, g2, g3, g4, g5, g6⟩ := hRf
    have e43 := g1.1.2.1
    by_cases hb : hm (kD K) ≤ b
    · have eb : b = hm (kD K) := by omega
      subst eb
      have := h f he
      rw [H_X12_stops_16] at this ⊢
      have hcond : aI (mk σ f) 235 43 ≤ n32 (hm (kD K)) := by first | assumption | omega | (simp (disch := omega) only [n32_of, neg_n32_1, n32_nat, n32_lt, n32_le, n32_eq, n32_add, n32_sub, n32_mul, n32_m1, m1_n32, n32_addm1, m1_lt, lt_m1, m1_le, le_m1, m1_add1, ofNat_n32, u2_self, u2_n, mk_I, mk_T, ne_eq, not_true_eq_false, not_false_eq_true, e43]; first | done | omega)
      rw [if_pos hcond] at this ⊢
      exact this
    · rw [H_X12_stops_16]
      unfold J_X12_stops_74 J_X12_stops_82
      with_reducible refine ok_in (by first | assumption | omega | (simp (disch := omega) only [n32_of, neg_n32_1, n32_nat, n32_lt, n32_le, n32_eq, n32_add, n32_sub, n32_mul, n32_m1, m1_n32, n32_addm1, m1_lt, lt_m1, m1_le, le_m1, m1_add1, ofNat_n32, u2_self, u2_n, mk_I, mk_T, ne_eq, not_true_eq_false, not_false_eq_true, e43]; first | done | omega)) ?_
      with_reducible refine ok_cO (by first | assumption | omega | (simp (disch := omega) only [n32_of, neg_n32_1, n32_nat, n32_lt, n32_le, n32_eq, n32_add, n32_sub, n32_mul, n32_m1, m1_n32, n32_addm1, m1_lt, lt_m1, m1_le, le_m1, m1_add1, ofNat_n32, u2_self, u2_n, mk_I, mk_T, ne_eq, not_true_eq_false, not_false_eq_true, ]; first | done | omega)) ?_
      have hbm : b < hm (kD K) := by omega
      have hst := hHf b (by omega)
      have hnx := hG.1
      have hlx := hG.2.2.1 c l hc hcl
      have next : ∀ (f' : Nat → Nat → Int32) (x4 x5' : Int32), eqS scR f0 f' → x4 = oI (bst (gLim K G l) (gOk K G) (n32 (gcp G c)) (b + 1)) → (∀ b', bst (gLim K G l) (gOk K G) (n32 (gcp G c)) (b + 1) = some b' → x5' = gLim K G l b') → Ok (H_X12_stops_16 N n (n32 c) (n32 sec) (n32 l) x4 x5' (n32 b + 1) (mk σ f')) Q' := by
        intro f' x4 x5' he' hx4 hx5
        rw [show n32 b + 1 = n32 (b + 1) from n32_add b 1, hx4]
        exact ih (b + 1) f' x5' (by omega) (by omega) he' hx5
      by_cases hok : gOk K G b = true
      · have hst0 : f 286 b = n32 0 := by
          rw [hst]
          unfold gOk at hok
          cases h1 : gst G b <;> cases h2 : decide (kO K = some b) <;> simp [h1, h2] at hok ⊢
          rfl
        with_reducible refine ok_ip (by first | assumption | omega | (simp (disch := omega) only [n32_of, neg_n32_1, n32_nat, n32_lt, n32_le, n32_eq, n32_add, n32_sub, n32_mul, n32_m1, m1_n32, n32_addm1, m1_lt, lt_m1, m1_le, le_m1, m1_add1, ofNat_n32, u2_self, u2_n, mk_I, mk_T, ne_eq, not_true_eq_false, not_false_eq_true, hst0]; first | done | omega)) ?_
        obtain ⟨okt, lv, hlv, hl1, hl2⟩ := g1.2 b hbm
        refine ok_bind (r_limit hN hK.1 g1.1 (by omega) hbm g2 (GI_PB hK hG hbm) hlv hl1 hl2 okt) (fun y σ1 hq => ?_)
        obtain ⟨rfl, f1, rfl, he1⟩ := hq
        have he01 := eqS_tr he he1
        have hp := (he1 279 c (by omega)).trans (g4 c hc (by rw [hcl]; simp))
        with_reducible refine ok_cO (by first | assumption | omega | (simp (disch := omega) only [n32_of, neg_n32_1, n32_nat, n32_lt, n32_le, n32_eq, n32_add, n32_sub, n32_mul, n32_m1, m1_n32, n32_addm1, m1_lt, lt_m1, m1_le, le_m1, m1_add1, ofNat_n32, u2_self, u2_n, mk_I, mk_T, ne_eq, not_true_eq_false, not_false_eq_true, ]; first | done | omega)) ?_
        have hL : limP (kD K) (kT K b) (gha G) (gsp G) b l = gLim K G l b := rfl
        rw [hL]
        have hbst : bst (gLim K G l) (gOk K G) (n32 (gcp G c)) (b + 1) = match bst (gLim K G l) (gOk K G) (n32 (gcp G c)) b with
          | none => if gOk K G b = true ∧ ¬ gLim K G l b < n32 (gcp G c) then some b else none
          | some c' => if gOk K G b = true ∧ ¬ gLim K G l b < n32 (gcp G c) ∧ gLim K G l c' < gLim K G l b then some b else some c' := rfl
        have hp' : aI (mk σ f1) 279 (n32 c).toNatClampNeg = n32 (gcp G c) := by simp (disch := omega) only [n32_of, neg_n32_1, n32_nat, n32_lt, n32_le, n32_eq, n32_add, n32_sub, n32_mul, n32_m1, m1_n32, n32_addm1, m1_lt, lt_m1, m1_le, le_m1, m1_add1, ofNat_n32, u2_self, u2_n, mk_I, mk_T, hp]
        rw [hp']
        by_cases hlt : gLim K G l b < n32 (gcp G c)
        · with_reducible refine ok_ip ?_ ?_
          · exact hlt
          cases hbb : bst (gLim K G l) (gOk K G) (n32 (gcp G c)) b with
          | none =>
            rw [hbb] at hbst
            simp only [if_neg (show ¬ (gOk K G b = true ∧ ¬ gLim K G l b < n32 (gcp G c)) from fun q => q.2 hlt)] at hbst
            exact next f1 _ _ he01 (by rw [hbst]) (fun b' hb' => by rw [hbst] at hb'; cases hb')
          | some c' =>
            rw [hbb] at hbst
            simp only [if_neg (show ¬ (gOk K G b = true ∧ ¬ gLim K G l b < n32 (gcp G c) ∧ gLim K G l c' < gLim K G l b) from fun q => q.2.1 hlt)] at hbst
            exact next f1 _ _ he01 (by rw [hbst]) (fun b' hb' => by rw [hbst] at hb'; exact hx b' (by rw [hbb]; exact hb'))
        · with_reducible refine ok_in ?_ ?_
          · exact hlt
          cases hbb : bst (gLim K G l) (gOk K G) (n32 (gcp G c)) b with
          | none =>
            rw [hbb] at hbst
            simp only [if_pos (show gOk K G b = true ∧ ¬ gLim K G l b < n32 (gcp G c) from ⟨hok, hlt⟩)] at hbst
            with_reducible refine ok_ip ?_ ?_
            · rfl
            exact next f1 _ _ he01 (by rw [hbst]; rfl) (fun b' hb' => by rw [hbst] at hb'; cases hb'; rfl)
          | some c' =>
            have hc' := bst_some hbb
            with_reducible refine ok_in ?_ ?_
            · exact oI_ne (by omega)
            rw [hx c' hbb]
            rw [hbb] at hbst
            by_cases hcl' : gLim K G l c' < gLim K G l b
            · simp only [if_pos (show gOk K G b = true ∧ ¬ gLim K G l b < n32 (gcp G c) ∧ gLim K G l c' < gLim K G l b from ⟨hok, hlt, hcl'⟩)] at hbst
              with_reducible refine ok_ip ?_ ?_
              · exact hcl'
              exact next f1 _ _ he01 (by rw [hbst]; rfl) (fun b' hb' => by rw [hbst] at hb'; cases hb'; rfl)
            · simp only [if_neg (show ¬ (gOk K G b = true ∧ ¬ gLim K G l b < n32 (gcp G c) ∧ gLim K G l c' < gLim K G l b) from fun q => hcl' q.2.2)] at hbst
              with_reducible refine ok_in ?_ ?_
              · exact hcl'
              exact next f1 _ _ he01 (by rw [hbst]) (fun b' hb' => by rw [hbst] at hb'; cases hb'; rfl)
      · have hst1 : f 286 b = n32 1 := by
          rw [hst]
          unfold gOk at hok
          cases h1 : gst G b <;> cases h2 : decide (kO K = some b) <;> simp [h1, h2] at hok ⊢ <;> rfl
        with_reducible refine ok_in (by first | assumption | omega | (simp (disch := omega) only [n32_of, neg_n32_1, n32_nat, n32_lt, n32_le, n32_eq, n32_add, n32_sub, n32_mul, n32_m1, m1_n32, n32_addm1, m1_lt, lt_m1, m1_le, le_m1, m1_add1, ofNat_n32, u2_self, u2_n, mk_I, mk_T, ne_eq, not_true_eq_false, not_false_eq_true, hst1]; first | done | omega)) ?_
        have hbst : bst (gLim K G l) (gOk K G) (n32 (gcp G c)) (b + 1) = bst (gLim K G l) (gOk K G) (n32 (gcp G c)) b := by
          rw [bst]
          cases hbb : bst (gLim K G l) (gOk K G) (n32 (gcp G c)) b with
          | none => simp only [if_neg (show ¬ (gOk K G b = true ∧ ¬ gLim K G l b < n32 (gcp G c)) from fun q => hok q.1)]
          | some c' => simp only [if_neg (show ¬ (gOk K G b = true ∧ ¬ gLim K G l b < n32 (gcp G c) ∧ gLim K G l c' < gLim K G l b) from fun q => hok q.1)]
        exact next f _ _ he (by rw [hbst]) (fun b' hb' => by rw [hbst] at hb'; exact hx b' hb')
end RSALE
