/-- the program's sale ahead of a turn -/
def XH (f : Nat → Nat → Int32) (σ : aSt) (s : Nat) (K : SP) (G : SG) : Prop := XB f σ s K G ∧ LF f s K G ∧ SH f s K G ∧ f s 3 = pre (gsec G)
theorem gStop_cl {K : SP} {c c' l : Nat} {G : SG} (h : gcl (gStop K c G) c' = some l) : gcl G c' = some l := by
  unfold gStop at h
  cases hcc : gcl G c with
  | none =>
    rw [hcc] at h
    exact h
  | some l0 =>
    rw [hcc] at h
    simp only at h
    cases hb : bst (gLim K G l0) (gOk K G) (n32 (gcp G c)) (hm (kD K)) with
    | none =>
      rw [hb] at h
      exact h
    | some b =>
      rw [hb] at h
      have h' : fu (gcl G) c none c' = some l := h
      by_cases e : c' = c
      · rw [e, fu_at] at h'
        cases h'
      · rwa [fu_ne e] at h'
theorem gLow_cl {K : SP} {c c' l : Nat} {G : SG} (h : gcl (gLow K c G) c' = some l) : gcl G c' = some l := by
  unfold gLow at h
  cases hcc : gcl G c with
  | none =>
    rw [hcc] at h
    exact h
  | some l0 =>
    rw [hcc] at h
    simp only at h
    by_cases hp : kL K l0 < gcp G c
    · rw [if_pos hp] at h
      exact h
    · rw [if_neg hp] at h
      have h' : fu (gcl G) c none c' = some l := h
      by_cases e : c' = c
      · rw [e, fu_at] at h'
        cases h'
      · rwa [fu_ne e] at h'
theorem XB_fall {s : Nat} {f : Nat → Nat → Int32} {σ : aSt} {K : SP} {G : SG} (hs : isS s) (hK : KOK K) (hG : GI K G) (h : XB f σ s K G) : XB (u2 f s 6 (n32 (gsec G + 1))) σ s K (gFall G) := by
  have hs' := hs
  unfold isS at hs'
  have n24 := hK.1.1
  have m6 := hK.1.2.1
  have hnx := hG.1
  obtain ⟨x1, ⟨x2, x3, x4, x5⟩, x6, x7, x8, x9, x10⟩ := h
  refine ⟨XC_S hs hK.1 x1 ?_, ⟨?_, ?_, ?_, ?_⟩, ?_, ?_, ?_, ?_, ?_⟩
  · intro a k ha
    simp (disch := omega) only [n32_of, neg_n32_1, n32_nat, n32_lt, n32_le, n32_eq, n32_add, n32_sub, n32_mul, n32_m1, m1_n32, n32_addm1, m1_lt, lt_m1, m1_le, le_m1, m1_add1, ofNat_n32, u2_self, u2_n, mk_I, mk_T, ]
  · simp (disch := omega) only [n32_of, neg_n32_1, n32_nat, n32_lt, n32_le, n32_eq, n32_add, n32_sub, n32_mul, n32_m1, m1_n32, n32_addm1, m1_lt, lt_m1, m1_le, le_m1, m1_add1, ofNat_n32, u2_self, u2_n, mk_I, mk_T, ]; exact x2
  · simp (disch := omega) only [n32_of, neg_n32_1, n32_nat, n32_lt, n32_le, n32_eq, n32_add, n32_sub, n32_mul, n32_m1, m1_n32, n32_addm1, m1_lt, lt_m1, m1_le, le_m1, m1_add1, ofNat_n32, u2_self, u2_n, mk_I, mk_T, ]; rfl
  · simp (disch := omega) only [n32_of, neg_n32_1, n32_nat, n32_lt, n32_le, n32_eq, n32_add, n32_sub, n32_mul, n32_m1, m1_n32, n32_addm1, m1_lt, lt_m1, m1_le, le_m1, m1_add1, ofNat_n32, u2_self, u2_n, mk_I, mk_T, ]; exact x4
  · simp (disch := omega) only [n32_of, neg_n32_1, n32_nat, n32_lt, n32_le, n32_eq, n32_add, n32_sub, n32_mul, n32_m1, m1_n32, n32_addm1, m1_lt, lt_m1, m1_le, le_m1, m1_add1, ofNat_n32, u2_self, u2_n, mk_I, mk_T, ]; exact x5
  · intro c' hc'
    simp (disch := omega) only [n32_of, neg_n32_1, n32_nat, n32_lt, n32_le, n32_eq, n32_add, n32_sub, n32_mul, n32_m1, m1_n32, n32_addm1, m1_lt, lt_m1, m1_le, le_m1, m1_add1, ofNat_n32, u2_self, u2_n, mk_I, mk_T, ]
    exact x6 c' hc'
  · intro c' l' hc' hl'
    simp (disch := omega) only [n32_of, neg_n32_1, n32_nat, n32_lt, n32_le, n32_eq, n32_add, n32_sub, n32_mul, n32_m1, m1_n32, n32_addm1, m1_lt, lt_m1, m1_le, le_m1, m1_add1, ofNat_n32, u2_self, u2_n, mk_I, mk_T, ]
    exact x7 c' l' hc' hl'
  · intro b' hb'
    have h8 := x8 b' hb'
    refine ⟨⟨?_, fun k hk => ?_⟩, ?_, ?_⟩
    · simp (disch := omega) only [n32_of, neg_n32_1, n32_nat, n32_lt, n32_le, n32_eq, n32_add, n32_sub, n32_mul, n32_m1, m1_n32, n32_addm1, m1_lt, lt_m1, m1_le, le_m1, m1_add1, ofNat_n32, u2_self, u2_n, mk_I, mk_T, ]; exact h8.1.1
    · simp (disch := omega) only [n32_of, neg_n32_1, n32_nat, n32_lt, n32_le, n32_eq, n32_add, n32_sub, n32_mul, n32_m1, m1_n32, n32_addm1, m1_lt, lt_m1, m1_le, le_m1, m1_add1, ofNat_n32, u2_self, u2_n, mk_I, mk_T, ]; exact h8.1.2 k hk
    · simp (disch := omega) only [n32_of, neg_n32_1, n32_nat, n32_lt, n32_le, n32_eq, n32_add, n32_sub, n32_mul, n32_m1, m1_n32, n32_addm1, m1_lt, lt_m1, m1_le, le_m1, m1_add1, ofNat_n32, u2_self, u2_n, mk_I, mk_T, ]; exact h8.2.1
    · simp (disch := omega) only [n32_of, neg_n32_1, n32_nat, n32_lt, n32_le, n32_eq, n32_add, n32_sub, n32_mul, n32_m1, m1_n32, n32_addm1, m1_lt, lt_m1, m1_le, le_m1, m1_add1, ofNat_n32, u2_self, u2_n, mk_I, mk_T, ]; exact h8.2.2
  · intro l' hl'
    simp (disch := omega) only [n32_of, neg_n32_1, n32_nat, n32_lt, n32_le, n32_eq, n32_add, n32_sub, n32_mul, n32_m1, m1_n32, n32_addm1, m1_lt, lt_m1, m1_le, le_m1, m1_add1, ofNat_n32, u2_self, u2_n, mk_I, mk_T, ]
    exact x9 l' hl'
  · intro l' r' hr'
    have hl24 : l' < gnx G := Nat.lt_of_not_le (fun q => by have := hG.2.2.2.2.2.1 l' q; rw [show gre G l' = some r' from hr'] at this; cases this)
    simp (disch := omega) only [n32_of, neg_n32_1, n32_nat, n32_lt, n32_le, n32_eq, n32_add, n32_sub, n32_mul, n32_m1, m1_n32, n32_addm1, m1_lt, lt_m1, m1_le, le_m1, m1_add1, ofNat_n32, u2_self, u2_n, mk_I, mk_T, ]
    exact x10 l' r' hr'
theorem x_turn {N s n t : Nat} {σ : aSt} {K : SP} {G : SG} {f : Nat → Nat → Int32} {Q : Unit → aSt → Prop} (hN : 1000 ≤ N) (hs : isS s) (hK : KOK K) (hO : ∀ b, kO K = some b → b < 6) (hG : GI K G) (hgo : ggo G < hn (kD K)) (ht : t < hn (kD K)) (hsec : gsec G + 1000 < 100000) (hX : XH f σ s K G) (hn0 : 0 < n) (hk : ∀ q f', QT K (gF3 K G) q → XH f' σ s K (gTurn K q G) → eqS (scXS s) f f' → Ok (H_X9_hold_7 N (n - 1) s (n32 (t + 1)) (mk σ f')) Q) : Ok (H_X9_hold_7 N n s (n32 t) (mk σ f)) Q := by
  obtain ⟨n, rfl⟩ : ∃ m, n = m + 1 := ⟨n - 1, by omega⟩
  rw [Nat.add_sub_cancel] at hk
  have hs' := hs
  unfold isS at hs'
  have n24 := hK.1.1
  have m6 := hK.1.2.1
  obtain ⟨hXB, hLF, hSH, h3⟩ := hX
  have e11 := hXB.1.1.1
  have e8 := hXB.2.1.2.2.2
  have hF : GI K (gF3 K G) := gFill_I hK (by omega) (gFill_I hK (by omega) (gFill_I hK (by omega) hG))
  have es : gsec (gF3 K G) = gsec G := by
    unfold gF3
    rw [gFill_sec.1, gFill_sec.1, gFill_sec.1]
  rw [H_X9_hold_7]
  with_reducible refine ok_in (by first | assumption | omega | (simp (disch := omega) only [n32_of, neg_n32_1, n32_nat, n32_lt, n32_le, n32_eq, n32_add, n32_sub, n32_mul, n32_m1, m1_n32, n32_addm1, m1_lt, lt_m1, m1_le, le_m1, m1_add1, ofNat_n32, u2_self, u2_n, mk_I, mk_T, ne_eq, not_true_eq_false, not_false_eq_true, e11]; first | done | omega)) ?_
  with_reducible refine ok_in (by first | assumption | omega | (simp (disch := omega) only [n32_of, neg_n32_1, n32_nat, n32_lt, n32_le, n32_eq, n32_add, n32_sub, n32_mul, n32_m1, m1_n32, n32_addm1, m1_lt, lt_m1, m1_le, le_m1, m1_add1, ofNat_n32, u2_self, u2_n, mk_I, mk_T, ne_eq, not_true_eq_false, not_false_eq_true, e11, e8]; first | done | omega)) ?_
  unfold F_X9_fillClocks
  refine ok_bind (x_fill hs hK N 0 f G (by omega) (by omega) hG (by omega) hXB hLF hSH) (fun _ σ1 hq1 => ?_)
  obtain ⟨f1, rfl, he1, h31, G', hG', -, -, -, hX1, hL1, hS1⟩ := hq1
  have hG'' : G' = gF3 K G := hG' rfl
  subst hG''
  refine ok_bind (x_refresh hN hs hK hF (by omega) hX1 hL1 hS1 hO) (fun _ σ2 hq2 => ?_)
  obtain ⟨f2, rfl, hD⟩ := hq2
  have hX2 := XB_S hs hK hF hX1 hD.1
  have hLA : LA f2 s K (gF3 K G) := fun c l hc hl b hb => (hD.2 c l b hc hl hb).1 (Or.inl hc)
  refine ok_bind (x_quiet hN hs hK hF (by omega) (gF3_oc hK hG hgo) hX2 hLA) (fun _ σ3 hq3 => ?_)
  obtain ⟨q, f3, rfl, hQ, he3, hX3, hsame, hlims⟩ := hq3
  have hq98 := hQ.1
  have hGq := quiet_I hF hQ (Nat.le_refl q)
  have sP : gsec (gRest (gQuiet q (gF3 K G))) = gsec G + q := by
    show gsec (gF3 K G) + q = _
    rw [es]
  have hXP : XB f3 σ s K (gRest (gQuiet q (gF3 K G))) := hX3
  have hGP : GI K (gRest (gQuiet q (gF3 K G))) := gRest_I hGq
  have hLP : LM f3 s K (gRest (gQuiet q (gF3 K G))) := fun c l hc hl b hb _ => (hlims c b hc).trans (hLA c l hc hl b hb)
  have hSP : SA f3 s K (gRest (gQuiet q (gF3 K G))) := by
    intro b hb
    obtain ⟨o, o1, o2, o3⟩ := hS1 b hb
    refine ⟨o, ?_, fun t ht => ?_, ?_⟩
    · rw [hsame _ _ (by omega) (by omega), hD.1 _ _ (by omega)]
      exact o1
    · have := o2 t ht
      rw [es] at this
      rw [sP]
      omega
    · refine ⟨fun h => (by cases h), fun h => ?_⟩
      have := o2 _ h
      rw [es, sP] at this
      omega
  have hFA : ∀ c l, c < 3 → gcl (gF3 K G) c = some l → ∃ t, f3 (s + 40 + 2 * c) 3 = n32 t ∧ t ≤ gsec G := by
    intro c l hc hl
    obtain ⟨t, t1, t2, -⟩ := hL1 c l hc hl
    refine ⟨t, ?_, by omega⟩
    rw [hsame _ _ (by omega) (by omega), hD.1 _ _ (by omega)]
    exact t1
  generalize hPd : gRest (gQuiet q (gF3 K G)) = P at sP hXP hGP hLP hSP
  have hPcl : gcl P = gcl (gF3 K G) := by rw [← hPd]; rfl
  unfold F_X9_stopClocks
  have c0 : (0 : Nat) < 3 := by omega
  have c1 : (1 : Nat) < 3 := by omega
  have c2 : (2 : Nat) < 3 := by omega
  have hgoP : ggo P = ggo G := by
    rw [← hPd]
    show ggo (gF3 K G) = _
    unfold gF3
    rw [gFill_sec.2, gFill_sec.2, gFill_sec.2]
  have hstops : Ok (H_X9_stopClocks_2 N N s (n32 0) (mk σ f3)) (fun _ σ' => ∃ f4, σ' = mk σ f4 ∧ eqS (scXS s) f3 f4 ∧ XB f4 σ s K (gS3 K P) ∧ LM f4 s K (gS3 K P) ∧ SA f4 s K (gS3 K P) ∧ ((ggo (gS3 K P) = ggo P) ∨ f4 s 3 = n32 (gsec P)) ∧ ∀ c, c < 3 → f4 (s + 40 + 2 * c) 3 = f3 (s + 40 + 2 * c) 3) := by
    refine x_stopc (c := 0) hN hs hK hGP (by omega) hXP hLP hSP c0 (by omega) (fun fa ea xa la' sa la3 fa3 => ?_)
    have ga := gStop_I hK c0 hGP
    refine x_stopc (c := 1) hN hs hK ga (by rw [gStop_sec.1]; omega) xa la' sa c1 (by omega) (fun fb eb xb lb sb lb3 fb3 => ?_)
    have gb := gStop_I hK c1 ga
    refine x_stopc (c := 2) hN hs hK gb (by rw [gStop_sec.1, gStop_sec.1]; omega) xb lb sb c2 (by omega) (fun fc ec xc lc sc lc3 fc3 => ?_)
    rw [show N - 1 - 1 - 1 = (N - 4) + 1 by omega, H_X9_stopClocks_2]
    with_reducible refine ok_ip (by first | assumption | omega | (simp (disch := omega) only [n32_of, neg_n32_1, n32_nat, n32_lt, n32_le, n32_eq, n32_add, n32_sub, n32_mul, n32_m1, m1_n32, n32_addm1, m1_lt, lt_m1, m1_le, le_m1, m1_add1, ofNat_n32, u2_self, u2_n, mk_I, mk_T, ne_eq, not_true_eq_false, not_false_eq_true, ]; first | done | omega)) ?_
    refine ok_some ⟨fc, rfl, eqS_tr ea (eqS_tr eb ec), xc, lc, sc, ?_, fun c hc => (fc3 c hc).trans ((fb3 c hc).trans (fa3 c hc))⟩
    rw [gStop_sec.1] at lb3
    rw [gStop_sec.1, gStop_sec.1] at lc3
    unfold gS3
    rcases lc3 with ⟨q1, q2⟩ | q1
    · rcases lb3 with ⟨r1, r2⟩ | r1
      · rcases la3 with ⟨p1, p2⟩ | p1
        · left
          rw [q2, r2, p2]
        · right
          rw [q1, r1, p1]
      · right
        rw [q1, r1]
    · right
      exact q1
  refine ok_bind hstops (fun _ σ4 hq4 => ?_)
  obtain ⟨f4, rfl, he4, hX4, hL4, hS4, h34, hf4⟩ := hq4
  have hGS : GI K (gS3 K P) := gStop_I hK c2 (gStop_I hK c1 (gStop_I hK c0 hGP))
  have sS : gsec (gS3 K P) = gsec P := by
    unfold gS3
    rw [gStop_sec.1, gStop_sec.1, gStop_sec.1]
  generalize hSd : gS3 K P = S at hX4 hL4 hS4 h34 hGS sS
  unfold F_X9_lowerClocks
  have hlows : Ok (H_X9_lowerClocks_2 N N s (n32 0) (mk σ f4)) (fun _ σ' => ∃ f5, σ' = mk σ f5 ∧ eqS (scXS s) f4 f5 ∧ XB f5 σ s K (gL3 K S) ∧ LM f5 s K (gL3 K S) ∧ SA f5 s K (gL3 K S) ∧ ((f5 s 3 = f4 s 3 ∧ ggo (gL3 K S) = ggo S) ∨ f5 s 3 = n32 (gsec P)) ∧ ∀ c, c < 3 → f5 (s + 40 + 2 * c) 3 = f4 (s + 40 + 2 * c) 3) := by
    refine x_lowc (c := 0) hs hK hGS (by omega) hX4 hL4 hS4 c0 (by omega) (fun fa ea xa la' sa la3 fa3 => ?_)
    have ga := gLow_I hK c0 hGS
    refine x_lowc (c := 1) hs hK ga (by rw [gLow_sec.1]; omega) xa la' sa c1 (by omega) (fun fb eb xb lb sb lb3 fb3 => ?_)
    have gb := gLow_I hK c1 ga
    refine x_lowc (c := 2) hs hK gb (by rw [gLow_sec.1, gLow_sec.1]; omega) xb lb sb c2 (by omega) (fun fc ec xc lc sc lc3 fc3 => ?_)
    rw [show N - 1 - 1 - 1 = (N - 4) + 1 by omega, H_X9_lowerClocks_2]
    with_reducible refine ok_ip (by first | assumption | omega | (simp (disch := omega) only [n32_of, neg_n32_1, n32_nat, n32_lt, n32_le, n32_eq, n32_add, n32_sub, n32_mul, n32_m1, m1_n32, n32_addm1, m1_lt, lt_m1, m1_le, le_m1, m1_add1, ofNat_n32, u2_self, u2_n, mk_I, mk_T, ne_eq, not_true_eq_false, not_false_eq_true, ]; first | done | omega)) ?_
    refine ok_some ⟨fc, rfl, eqS_tr ea (eqS_tr eb ec), xc, lc, sc, ?_, fun c hc => (fc3 c hc).trans ((fb3 c hc).trans (fa3 c hc))⟩
    rw [gLow_sec.1, sS] at lb3
    rw [gLow_sec.1, gLow_sec.1, sS] at lc3
    rw [sS] at la3
    unfold gL3
    rcases lc3 with ⟨q1, q2⟩ | q1
    · rcases lb3 with ⟨r1, r2⟩ | r1
      · rcases la3 with ⟨p1, p2⟩ | p1
        · left
          exact ⟨by rw [q1, r1, p1], by rw [q2, r2, p2]⟩
        · right
          rw [q1, r1, p1]
      · right
        rw [q1, r1]
    · right
      exact q1
  refine ok_bind hlows (fun _ σ5 hq5 => ?_)
  obtain ⟨f5, rfl, he5, hX5, hL5, hS5, h35, hf5⟩ := hq5
  have hGL : GI K (gL3 K S) := gLow_I hK c2 (gLow_I hK c1 (gLow_I hK c0 hGS))
  have sL : gsec (gL3 K S) = gsec P := by
    unfold gL3
    rw [gLow_sec.1, gLow_sec.1, gLow_sec.1, sS]
  have hT : gTurn K q G = gFall (gL3 K S) := by
    unfold gTurn
    rw [hPd, hSd]
  have hprog : ggo P < ggo (gL3 K S) := by
    have := turn_go hF hQ
    rw [hPd, hSd] at this
    have hgF : ggo (gF3 K G) = ggo P := by rw [← hPd]; rfl
    rw [hgF] at this
    exact this
  repeat (first | with_reducible refine ok_W ?_ | with_reducible refine ok_cO (by first | assumption | omega | (simp (disch := omega) only [n32_of, neg_n32_1, n32_nat, n32_lt, n32_le, n32_eq, n32_add, n32_sub, n32_mul, n32_m1, m1_n32, n32_addm1, m1_lt, lt_m1, m1_le, le_m1, m1_add1, ofNat_n32, u2_self, u2_n, mk_I, mk_T, ne_eq, not_true_eq_false, not_false_eq_true, ]; first | done | omega)) ?_ | with_reducible refine ok_ip (by first | assumption | omega | (simp (disch := omega) only [n32_of, neg_n32_1, n32_nat, n32_lt, n32_le, n32_eq, n32_add, n32_sub, n32_mul, n32_m1, m1_n32, n32_addm1, m1_lt, lt_m1, m1_le, le_m1, m1_add1, ofNat_n32, u2_self, u2_n, mk_I, mk_T, ne_eq, not_true_eq_false, not_false_eq_true, ]; first | done | omega)) ?_ | with_reducible refine ok_in (by first | assumption | omega | (simp (disch := omega) only [n32_of, neg_n32_1, n32_nat, n32_lt, n32_le, n32_eq, n32_add, n32_sub, n32_mul, n32_m1, m1_n32, n32_addm1, m1_lt, lt_m1, m1_le, le_m1, m1_add1, ofNat_n32, u2_self, u2_n, mk_I, mk_T, ne_eq, not_true_eq_false, not_false_eq_true, ]; first | done | omega)) ?_)
  have e6 := hX5.2.1.2.1
  simp (disch := omega) only [n32_of, neg_n32_1, n32_nat, n32_lt, n32_le, n32_eq, n32_add, n32_sub, n32_mul, n32_m1, m1_n32, n32_addm1, m1_lt, lt_m1, m1_le, le_m1, m1_add1, ofNat_n32, u2_self, u2_n, mk_I, mk_T, e6]
  refine hk q _ hQ ?_ ?_
  · rw [hT]
    refine ⟨XB_fall hs hK hGL hX5, ?_, ?_, ?_⟩
    · intro c l hc hl
      have hl' : gcl (gL3 K S) c = some l := hl
      have hlS : gcl S c = some l := gLow_cl (gLow_cl (gLow_cl hl'))
      have hlP : gcl P c = some l := by
        rw [← hSd] at hlS
        exact gStop_cl (gStop_cl (gStop_cl hlS))
      rw [hPcl] at hlP
      obtain ⟨t', t1, t2⟩ := hFA c l hc hlP
      refine ⟨t', ?_, ?_, fun _ b hb hg => ?_⟩
      · simp (disch := omega) only [n32_of, neg_n32_1, n32_nat, n32_lt, n32_le, n32_eq, n32_add, n32_sub, n32_mul, n32_m1, m1_n32, n32_addm1, m1_lt, lt_m1, m1_le, le_m1, m1_add1, ofNat_n32, u2_self, u2_n, mk_I, mk_T, ]
        rw [hf5 c hc, hf4 c hc]
        exact t1
      · show t' ≤ gsec (gL3 K S) + 1
        omega
      · simp (disch := omega) only [n32_of, neg_n32_1, n32_nat, n32_lt, n32_le, n32_eq, n32_add, n32_sub, n32_mul, n32_m1, m1_n32, n32_addm1, m1_lt, lt_m1, m1_le, le_m1, m1_add1, ofNat_n32, u2_self, u2_n, mk_I, mk_T, ]
        exact hL5 c l hc hl' b hb hg
    · intro b hb
      obtain ⟨o, o1, o2, o3⟩ := hS5 b hb
      refine ⟨o, ?_, fun t ht => ?_, fun hg => ?_⟩
      · simp (disch := omega) only [n32_of, neg_n32_1, n32_nat, n32_lt, n32_le, n32_eq, n32_add, n32_sub, n32_mul, n32_m1, m1_n32, n32_addm1, m1_lt, lt_m1, m1_le, le_m1, m1_add1, ofNat_n32, u2_self, u2_n, mk_I, mk_T, ]
        exact o1
      · have := o2 t ht
        show t < gsec (gL3 K S) + 1
        omega
      · show o = some (gsec (gL3 K S) + 1 - 1)
        rw [Nat.add_sub_cancel]
        exact o3.mp hg
    · show u2 f5 s 6 _ s 3 = pre (gsec (gL3 K S) + 1)
      rw [u2_n (by omega)]
      have : pre (gsec (gL3 K S) + 1) = n32 (gsec P) := by
        unfold pre
        rw [if_neg (by omega), Nat.add_sub_cancel, sL]
      rw [this]
      rcases h35 with ⟨p1, p2⟩ | p1
      · rcases h34 with p3 | p3
        · omega
        · rw [p1, p3]
      · exact p1
  · refine eqS_u2 (eqS_tr he1 (eqS_tr (eqS_mono hD.1 (fun a ha => by omega)) (eqS_tr he3 (eqS_tr he4 he5)))) (by omega)
