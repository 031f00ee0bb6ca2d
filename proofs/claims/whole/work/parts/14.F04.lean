abbrev scXS (s a : Nat) : Prop := (s ≤ a ∧ a < s + 46) ∨ scX a
def isS (s : Nat) : Prop := s = 101 ∨ s = 147
def XC (f : Nat → Nat → Int32) (σ : aSt) (K : SP) : Prop := HX f (kD K) ∧ ∀ b, b < hm (kD K) → okT (kT K b) ∧ isTx (aTxt σ (47 + 9 * b) 3) ∧ XT f (aTxt σ (47 + 9 * b) 3) (kT K b)
theorem XC_S {s : Nat} {f f' : Nat → Nat → Int32} {σ : aSt} {K : SP} (hs : isS s) (hD : HOK (kD K)) (h : XC f σ K) (e : eqS (scXS s) f f') : XC f' σ K := by
  unfold isS at hs
  refine ⟨HX_S h.1 hD e (by omega) (by omega) (fun i hi => by omega) (fun b hb => by omega), fun b hb => ?_⟩
  obtain ⟨h1, h2, h3⟩ := h.2 b hb
  refine ⟨h1, h2, XT_S h3 e (fun j hj => ?_)⟩
  have := tx_in h2
  omega
def sum6 (g : Nat → Nat) : Nat := g 0 + g 1 + g 2 + g 3 + g 4 + g 5
def brP (D : HD) (l : Nat) (r : SR) : Nat := match r.1 with
  | none => r.2.1 * lo D 3 l / 2
  | some _ => r.2.1 * lo D 3 l - r.2.1 * lo D 3 l * 3 / 100
def toB (r : Option SR) : Option Nat := match r with
  | none => none
  | some r => r.1
/-- the program's sale, but limits and who stopped -/
def XB (f : Nat → Nat → Int32) (σ : aSt) (s : Nat) (K : SP) (G : SG) : Prop := XC f σ K ∧ (f s 5 = oI (kO K) ∧ f s 6 = n32 (gsec G) ∧ f s 7 = n32 (gnx G) ∧ f s 8 = n32 (ggo G)) ∧ (∀ c, c < 3 → f (s + 40 + 2 * c) 0 = oI (gcl G c)) ∧ (∀ c l, c < 3 → gcl G c = some l → f (s + 40 + 2 * c) 1 = n32 (gcp G c) ∧ f (s + 40 + 2 * c) 2 = n32 (kL K l)) ∧ (∀ b, b < hm (kD K) → PX f (s + 28 + 2 * b) (kD K) (gha G) (gsp G) b ∧ f (s + 28 + 2 * b) 1 = n32 (sum6 (gha G b)) ∧ f (s + 28 + 2 * b) 2 = n32 (gnl G b)) ∧ (∀ l, l < hn (kD K) → f (s + 4 + l) 0 = oI (toB (gre G l)) ∧ f (s + 4 + l) 4 = n32 (kS K l) ∧ f (s + 4 + l) 5 = n32 (kL K l) ∧ f (s + 4 + l) 7 = m1) ∧ ∀ l r, gre G l = some r → f (s + 4 + l) 1 = n32 r.2.1 ∧ f (s + 4 + l) 2 = n32 r.2.2.1 ∧ f (s + 4 + l) 3 = n32 r.2.2.2 ∧ f (s + 4 + l) 6 = n32 (brP (kD K) l r)
def limX (K : SP) (G : SG) (l b : Nat) : Int32 := if kO K = some b then n32 0 else gLim K G l b
/-- limits that stand, when each clock was filled -/
def LF (f : Nat → Nat → Int32) (s : Nat) (K : SP) (G : SG) : Prop := ∀ c l, c < 3 → gcl G c = some l → ∃ t, f (s + 40 + 2 * c) 3 = n32 t ∧ t ≤ gsec G ∧ (t ≠ gsec G → ∀ b, b < hm (kD K) → gst G b = false → f (s + 40 + 2 * c + 1) b = limX K G l b)
def LM (f : Nat → Nat → Int32) (s : Nat) (K : SP) (G : SG) : Prop := ∀ c l, c < 3 → gcl G c = some l → ∀ b, b < hm (kD K) → gst G b = false → f (s + 40 + 2 * c + 1) b = limX K G l b
/-- who stopped, ahead of a turn and in it -/
def SH (f : Nat → Nat → Int32) (s : Nat) (K : SP) (G : SG) : Prop := ∀ b, b < hm (kD K) → ∃ o : Option Nat, f (s + 28 + 2 * b) 4 = oI o ∧ (∀ t, o = some t → t < gsec G) ∧ (gst G b = true → o = some (gsec G - 1))
def SA (f : Nat → Nat → Int32) (s : Nat) (K : SP) (G : SG) : Prop := ∀ b, b < hm (kD K) → ∃ o : Option Nat, f (s + 28 + 2 * b) 4 = oI o ∧ (∀ t, o = some t → t ≤ gsec G) ∧ (gst G b = true ↔ o = some (gsec G))
theorem SH_cg {s : Nat} {f f' : Nat → Nat → Int32} {K : SP} {G : SG} (h : SH f s K G) (e : ∀ b, b < hm (kD K) → f' (s + 28 + 2 * b) 4 = f (s + 28 + 2 * b) 4) : SH f' s K G := fun b hb => by
  obtain ⟨o, h1, h2⟩ := h b hb
  exact ⟨o, (e b hb).trans h1, h2⟩
theorem x_fill {N s : Nat} {σ : aSt} {K : SP} (hs : isS s) (hK : KOK K) : ∀ (n c : Nat) (f : Nat → Nat → Int32) (G : SG), 3 < n + c → c ≤ 3 → GI K G → gsec G < 100000 → XB f σ s K G → LF f s K G → SH f s K G → Ok (H_X9_fillClocks_2 N n s (n32 c) (mk σ f)) (fun _ σ' => ∃ f', σ' = mk σ f' ∧ eqS (scXS s) f f' ∧ f' s 3 = f s 3 ∧ ∃ G', (c = 0 → G' = gFill K 2 (gFill K 1 (gFill K 0 G))) ∧ (c = 1 → G' = gFill K 2 (gFill K 1 G)) ∧ (c = 2 → G' = gFill K 2 G) ∧ (c = 3 → G' = G) ∧ XB f' σ s K G' ∧ LF f' s K G' ∧ SH f' s K G') := by
  have hs' := hs
  unfold isS at hs'
  have n24 := hK.1.1
  have m6 := hK.1.2.1
  intro n
  induction n with
  | zero => intro c f G h1 h2; omega
  | succ n ih =>
    intro c f G h1 h2 hG hsec hX hL hS
    have hX0 := hX
    obtain ⟨x1, ⟨x2, x3, x4, x5⟩, x6, x7, x8, x9, x10⟩ := hX
    have e11 := x1.1.1
    have hnx := hG.1
    rw [H_X9_fillClocks_2]
    unfold J_X9_fillClocks_99 J_X9_fillClocks_93
    by_cases hc3 : 3 ≤ c
    · with_reducible refine ok_ip (by first | assumption | omega | (simp (disch := omega) only [n32_of, neg_n32_1, n32_nat, n32_lt, n32_le, n32_eq, n32_add, n32_sub, n32_mul, n32_m1, m1_n32, n32_addm1, m1_lt, lt_m1, m1_le, le_m1, m1_add1, ofNat_n32, u2_self, u2_n, mk_I, mk_T, ne_eq, not_true_eq_false, not_false_eq_true, ]; first | done | omega)) ?_
      refine ok_some ⟨f, rfl, eqS_rfl, rfl, G, by omega, by omega, by omega, fun _ => rfl, hX0, hL, hS⟩
    · with_reducible refine ok_in (by first | assumption | omega | (simp (disch := omega) only [n32_of, neg_n32_1, n32_nat, n32_lt, n32_le, n32_eq, n32_add, n32_sub, n32_mul, n32_m1, m1_n32, n32_addm1, m1_lt, lt_m1, m1_le, le_m1, m1_add1, ofNat_n32, u2_self, u2_n, mk_I, mk_T, ne_eq, not_true_eq_false, not_false_eq_true, ]; first | done | omega)) ?_
      by_cases hfull : hn (kD K) ≤ gnx G
      · with_reducible refine ok_ip (by first | assumption | omega | (simp (disch := omega) only [n32_of, neg_n32_1, n32_nat, n32_lt, n32_le, n32_eq, n32_add, n32_sub, n32_mul, n32_m1, m1_n32, n32_addm1, m1_lt, lt_m1, m1_le, le_m1, m1_add1, ofNat_n32, u2_self, u2_n, mk_I, mk_T, ne_eq, not_true_eq_false, not_false_eq_true, e11, x4]; first | done | omega)) ?_
        have hid : ∀ c, gFill K c G = G := fun c => if_neg (fun q => by omega)
        refine ok_some ⟨f, rfl, eqS_rfl, rfl, G, fun _ => by rw [hid, hid, hid], fun _ => by rw [hid, hid], fun _ => by rw [hid], fun _ => rfl, hX0, hL, hS⟩
      · with_reducible refine ok_in (by first | assumption | omega | (simp (disch := omega) only [n32_of, neg_n32_1, n32_nat, n32_lt, n32_le, n32_eq, n32_add, n32_sub, n32_mul, n32_m1, m1_n32, n32_addm1, m1_lt, lt_m1, m1_le, le_m1, m1_add1, ofNat_n32, u2_self, u2_n, mk_I, mk_T, ne_eq, not_true_eq_false, not_false_eq_true, e11, x4]; first | done | omega)) ?_
        with_reducible refine ok_cO (by first | assumption | omega | (simp (disch := omega) only [n32_of, neg_n32_1, n32_nat, n32_lt, n32_le, n32_eq, n32_add, n32_sub, n32_mul, n32_m1, m1_n32, n32_addm1, m1_lt, lt_m1, m1_le, le_m1, m1_add1, ofNat_n32, u2_self, u2_n, mk_I, mk_T, ne_eq, not_true_eq_false, not_false_eq_true, ]; first | done | omega)) ?_
        rw [s_isEmpty, oB_s]
        have hcl := x6 c (by omega)
        have next : ∀ f1, eqS (scXS s) f f1 → f1 s 3 = f s 3 → XB f1 σ s K (gFill K c G) → LF f1 s K (gFill K c G) → SH f1 s K (gFill K c G) → Ok (H_X9_fillClocks_2 N n s (n32 (c + 1)) (mk σ f1)) (fun _ σ' => ∃ f', σ' = mk σ f' ∧ eqS (scXS s) f f' ∧ f' s 3 = f s 3 ∧ ∃ G', (c = 0 → G' = gFill K 2 (gFill K 1 (gFill K 0 G))) ∧ (c = 1 → G' = gFill K 2 (gFill K 1 G)) ∧ (c = 2 → G' = gFill K 2 G) ∧ (c = 3 → G' = G) ∧ XB f' σ s K G' ∧ LF f' s K G' ∧ SH f' s K G') := by
          intro f1 he h3 hX1 hL1 hS1
          refine ok_mono (ih (c + 1) f1 (gFill K c G) (by omega) (by omega) (gFill_I hK (by omega) hG) (by rw [gFill_sec.1]; exact hsec) hX1 hL1 hS1) (fun _ σ' hq => ?_)
          obtain ⟨f', q1, q2, q3, G', q4, q5, q6, q7, q8⟩ := hq
          refine ⟨f', q1, eqS_tr he q2, q3.trans h3, G', fun e => ?_, fun e => ?_, fun e => ?_, fun e => ?_, q8⟩
          · subst e; exact q5 rfl
          · subst e; exact q6 rfl
          · subst e; exact q7 rfl
          · omega
        cases hcc : gcl G c with
        | some l =>
          rw [hcc] at hcl
          have hl := (hG.2.2.1 c l (by omega) hcc).1
          have hid : gFill K c G = G := if_neg (fun q => by rw [hcc] at q; cases q.1)
          with_reducible refine ok_ip ?_ ?_
          · rw [bI_0]
            simp (disch := omega) only [n32_of, neg_n32_1, n32_nat, n32_lt, n32_le, n32_eq, n32_add, n32_sub, n32_mul, n32_m1, m1_n32, n32_addm1, m1_lt, lt_m1, m1_le, le_m1, m1_add1, ofNat_n32, u2_self, u2_n, mk_I, mk_T, hcl, oI_s]
            exact not_false
          simp (disch := omega) only [n32_of, neg_n32_1, n32_nat, n32_lt, n32_le, n32_eq, n32_add, n32_sub, n32_mul, n32_m1, m1_n32, n32_addm1, m1_lt, lt_m1, m1_le, le_m1, m1_add1, ofNat_n32, u2_self, u2_n, mk_I, mk_T, ]
          refine next f eqS_rfl rfl ?_ ?_ ?_ <;> rw [hid]
          · exact hX0
          · exact hL
          · exact hS
        | none =>
          rw [hcc] at hcl
          have hid : gFill K c G = (gsec G, gnx G + 1, ggo G, fu (gcl G) c (some (gnx G)), fu (gcp G) c (kS K (gnx G)), gha G, gsp G, gnl G, gre G, gst G) := if_pos ⟨hcc, by omega⟩
          with_reducible refine ok_in ?_ ?_
          · rw [bI_0]
            intro q
            apply q
            simp (disch := omega) only [n32_of, neg_n32_1, n32_nat, n32_lt, n32_le, n32_eq, n32_add, n32_sub, n32_mul, n32_m1, m1_n32, n32_addm1, m1_lt, lt_m1, m1_le, le_m1, m1_add1, ofNat_n32, u2_self, u2_n, mk_I, mk_T, hcl]
            rfl
          have hst := x9 (gnx G) (by omega)
          repeat (first | with_reducible refine ok_W ?_ | with_reducible refine ok_cO (by first | assumption | omega | (simp (disch := omega) only [n32_of, neg_n32_1, n32_nat, n32_lt, n32_le, n32_eq, n32_add, n32_sub, n32_mul, n32_m1, m1_n32, n32_addm1, m1_lt, lt_m1, m1_le, le_m1, m1_add1, ofNat_n32, u2_self, u2_n, mk_I, mk_T, ne_eq, not_true_eq_false, not_false_eq_true, x4]; first | done | omega)) ?_ | with_reducible refine ok_ip (by first | assumption | omega | (simp (disch := omega) only [n32_of, neg_n32_1, n32_nat, n32_lt, n32_le, n32_eq, n32_add, n32_sub, n32_mul, n32_m1, m1_n32, n32_addm1, m1_lt, lt_m1, m1_le, le_m1, m1_add1, ofNat_n32, u2_self, u2_n, mk_I, mk_T, ne_eq, not_true_eq_false, not_false_eq_true, x4]; first | done | omega)) ?_ | with_reducible refine ok_in (by first | assumption | omega | (simp (disch := omega) only [n32_of, neg_n32_1, n32_nat, n32_lt, n32_le, n32_eq, n32_add, n32_sub, n32_mul, n32_m1, m1_n32, n32_addm1, m1_lt, lt_m1, m1_le, le_m1, m1_add1, ofNat_n32, u2_self, u2_n, mk_I, mk_T, ne_eq, not_true_eq_false, not_false_eq_true, x4]; first | done | omega)) ?_)
          simp (disch := omega) only [n32_of, neg_n32_1, n32_nat, n32_lt, n32_le, n32_eq, n32_add, n32_sub, n32_mul, n32_m1, m1_n32, n32_addm1, m1_lt, lt_m1, m1_le, le_m1, m1_add1, ofNat_n32, u2_self, u2_n, mk_I, mk_T, x4, x3, hst.2.1, hst.2.2.1]
          refine next _ ?_ ?_ ?_ ?_ ?_
          · exact eqS_u2 (eqS_u2 (eqS_u2 (eqS_u2 (eqS_u2 eqS_rfl (by omega)) (by omega)) (by omega)) (by omega)) (by omega)
          · simp (disch := omega) only [n32_of, neg_n32_1, n32_nat, n32_lt, n32_le, n32_eq, n32_add, n32_sub, n32_mul, n32_m1, m1_n32, n32_addm1, m1_lt, lt_m1, m1_le, le_m1, m1_add1, ofNat_n32, u2_self, u2_n, mk_I, mk_T, ]
          · rw [hid]
            refine ⟨XC_S hs hK.1 x1 (eqS_u2 (eqS_u2 (eqS_u2 (eqS_u2 (eqS_u2 eqS_rfl (by omega)) (by omega)) (by omega)) (by omega)) (by omega)), ⟨?_, ?_, ?_, ?_⟩, ?_, ?_, ?_, ?_, ?_⟩
            · simp (disch := omega) only [n32_of, neg_n32_1, n32_nat, n32_lt, n32_le, n32_eq, n32_add, n32_sub, n32_mul, n32_m1, m1_n32, n32_addm1, m1_lt, lt_m1, m1_le, le_m1, m1_add1, ofNat_n32, u2_self, u2_n, mk_I, mk_T, ]; exact x2
            · simp (disch := omega) only [n32_of, neg_n32_1, n32_nat, n32_lt, n32_le, n32_eq, n32_add, n32_sub, n32_mul, n32_m1, m1_n32, n32_addm1, m1_lt, lt_m1, m1_le, le_m1, m1_add1, ofNat_n32, u2_self, u2_n, mk_I, mk_T, ]; exact x3
            · simp (disch := omega) only [n32_of, neg_n32_1, n32_nat, n32_lt, n32_le, n32_eq, n32_add, n32_sub, n32_mul, n32_m1, m1_n32, n32_addm1, m1_lt, lt_m1, m1_le, le_m1, m1_add1, ofNat_n32, u2_self, u2_n, mk_I, mk_T, ]
            · simp (disch := omega) only [n32_of, neg_n32_1, n32_nat, n32_lt, n32_le, n32_eq, n32_add, n32_sub, n32_mul, n32_m1, m1_n32, n32_addm1, m1_lt, lt_m1, m1_le, le_m1, m1_add1, ofNat_n32, u2_self, u2_n, mk_I, mk_T, ]; exact x5
            · intro c' hc'
              show _ = oI (fu (gcl G) c (some (gnx G)) c')
              by_cases e : c' = c
              · subst e
                rw [fu_at]
                simp (disch := omega) only [n32_of, neg_n32_1, n32_nat, n32_lt, n32_le, n32_eq, n32_add, n32_sub, n32_mul, n32_m1, m1_n32, n32_addm1, m1_lt, lt_m1, m1_le, le_m1, m1_add1, ofNat_n32, u2_self, u2_n, mk_I, mk_T, ]
                rfl
              · rw [fu_ne e]
                simp (disch := omega) only [n32_of, neg_n32_1, n32_nat, n32_lt, n32_le, n32_eq, n32_add, n32_sub, n32_mul, n32_m1, m1_n32, n32_addm1, m1_lt, lt_m1, m1_le, le_m1, m1_add1, ofNat_n32, u2_self, u2_n, mk_I, mk_T, ]
                exact x6 c' hc'
            · intro c' l hc' hl
              have hl' : fu (gcl G) c (some (gnx G)) c' = some l := hl
              show _ = n32 (fu (gcp G) c (kS K (gnx G)) c') ∧ _
              by_cases e : c' = c
              · subst e
                rw [fu_at] at hl' ⊢
                cases hl'
                simp (disch := omega) only [n32_of, neg_n32_1, n32_nat, n32_lt, n32_le, n32_eq, n32_add, n32_sub, n32_mul, n32_m1, m1_n32, n32_addm1, m1_lt, lt_m1, m1_le, le_m1, m1_add1, ofNat_n32, u2_self, u2_n, mk_I, mk_T, ]
                exact ⟨trivial, trivial⟩
              · rw [fu_ne e] at hl' ⊢
                simp (disch := omega) only [n32_of, neg_n32_1, n32_nat, n32_lt, n32_le, n32_eq, n32_add, n32_sub, n32_mul, n32_m1, m1_n32, n32_addm1, m1_lt, lt_m1, m1_le, le_m1, m1_add1, ofNat_n32, u2_self, u2_n, mk_I, mk_T, ]
                exact x7 c' l hc' hl'
            · intro b hb
              have := x8 b hb
              refine ⟨⟨?_, fun k hk => ?_⟩, ?_, ?_⟩
              · simp (disch := omega) only [n32_of, neg_n32_1, n32_nat, n32_lt, n32_le, n32_eq, n32_add, n32_sub, n32_mul, n32_m1, m1_n32, n32_addm1, m1_lt, lt_m1, m1_le, le_m1, m1_add1, ofNat_n32, u2_self, u2_n, mk_I, mk_T, ]; exact this.1.1
              · simp (disch := omega) only [n32_of, neg_n32_1, n32_nat, n32_lt, n32_le, n32_eq, n32_add, n32_sub, n32_mul, n32_m1, m1_n32, n32_addm1, m1_lt, lt_m1, m1_le, le_m1, m1_add1, ofNat_n32, u2_self, u2_n, mk_I, mk_T, ]; exact this.1.2 k hk
              · simp (disch := omega) only [n32_of, neg_n32_1, n32_nat, n32_lt, n32_le, n32_eq, n32_add, n32_sub, n32_mul, n32_m1, m1_n32, n32_addm1, m1_lt, lt_m1, m1_le, le_m1, m1_add1, ofNat_n32, u2_self, u2_n, mk_I, mk_T, ]; exact this.2.1
              · simp (disch := omega) only [n32_of, neg_n32_1, n32_nat, n32_lt, n32_le, n32_eq, n32_add, n32_sub, n32_mul, n32_m1, m1_n32, n32_addm1, m1_lt, lt_m1, m1_le, le_m1, m1_add1, ofNat_n32, u2_self, u2_n, mk_I, mk_T, ]; exact this.2.2
            · intro l hl
              simp (disch := omega) only [n32_of, neg_n32_1, n32_nat, n32_lt, n32_le, n32_eq, n32_add, n32_sub, n32_mul, n32_m1, m1_n32, n32_addm1, m1_lt, lt_m1, m1_le, le_m1, m1_add1, ofNat_n32, u2_self, u2_n, mk_I, mk_T, ]
              exact x9 l hl
            · intro l r hr
              have hl24 : l < gnx G := Nat.lt_of_not_le (fun q => by have := hG.2.2.2.2.2.1 l q; rw [show gre G l = some r from hr] at this; cases this)
              simp (disch := omega) only [n32_of, neg_n32_1, n32_nat, n32_lt, n32_le, n32_eq, n32_add, n32_sub, n32_mul, n32_m1, m1_n32, n32_addm1, m1_lt, lt_m1, m1_le, le_m1, m1_add1, ofNat_n32, u2_self, u2_n, mk_I, mk_T, ]
              exact x10 l r hr
          · rw [hid]
            intro c' l hc' hl
            have hl' : fu (gcl G) c (some (gnx G)) c' = some l := hl
            by_cases e : c' = c
            · subst e
              refine ⟨gsec G, ?_, Nat.le_refl _, fun q => absurd rfl q⟩
              simp (disch := omega) only [n32_of, neg_n32_1, n32_nat, n32_lt, n32_le, n32_eq, n32_add, n32_sub, n32_mul, n32_m1, m1_n32, n32_addm1, m1_lt, lt_m1, m1_le, le_m1, m1_add1, ofNat_n32, u2_self, u2_n, mk_I, mk_T, ]
            · rw [fu_ne e] at hl'
              obtain ⟨t, t1, t2, t3⟩ := hL c' l hc' hl'
              refine ⟨t, ?_, t2, fun q b hb hg => ?_⟩
              · simp (disch := omega) only [n32_of, neg_n32_1, n32_nat, n32_lt, n32_le, n32_eq, n32_add, n32_sub, n32_mul, n32_m1, m1_n32, n32_addm1, m1_lt, lt_m1, m1_le, le_m1, m1_add1, ofNat_n32, u2_self, u2_n, mk_I, mk_T, ]; exact t1
              · simp (disch := omega) only [n32_of, neg_n32_1, n32_nat, n32_lt, n32_le, n32_eq, n32_add, n32_sub, n32_mul, n32_m1, m1_n32, n32_addm1, m1_lt, lt_m1, m1_le, le_m1, m1_add1, ofNat_n32, u2_self, u2_n, mk_I, mk_T, ]; exact t3 q b hb hg
          · rw [hid]
            exact SH_cg (G := (gsec G, gnx G + 1, ggo G, fu (gcl G) c (some (gnx G)), fu (gcp G) c (kS K (gnx G)), gha G, gsp G, gnl G, gre G, gst G)) hS (fun b hb => by simp (disch := omega) only [n32_of, neg_n32_1, n32_nat, n32_lt, n32_le, n32_eq, n32_add, n32_sub, n32_mul, n32_m1, m1_n32, n32_addm1, m1_lt, lt_m1, m1_le, le_m1, m1_add1, ofNat_n32, u2_self, u2_n, mk_I, mk_T, ])
