theorem sum6_fu {g : Nat → Nat} {k x : Nat} (hk : k < 6) : sum6 (fu g k (g k + x)) = sum6 g + x := by
  unfold sum6
  rcases (show k = 0 ∨ k = 1 ∨ k = 2 ∨ k = 3 ∨ k = 4 ∨ k = 5 by omega) with rfl | rfl | rfl | rfl | rfl | rfl <;> simp [fu] <;> omega
theorem gSell_X {K : SP} {G : SG} {c l b : Nat} {l' b' : Nat} (h : b' ≠ b) : limX K (gSell K c l b G) l' b' = limX K G l' b' := by
  unfold limX
  split
  · rfl
  · exact lim_cg (fu_ne h) (fu_ne h)
def LSs (f : Nat → Nat → Int32) (s : Nat) (G : SG) (go0 : Nat) : Prop := (ggo G = go0) ∨ f s 3 = n32 (gsec G)
theorem x_sell {N s c l b : Nat} {σ : aSt} {K : SP} {G : SG} {f : Nat → Nat → Int32} {Q : Unit → aSt → Prop} {k : aSt → Option (Unit × aSt)} (hs : isS s) (hK : KOK K) (hG : GI K G) (hsec : gsec G < 100000) (hX : XB f σ s K G) (hL : LM f s K G) (hA : SA f s K G) (hc : c < 3) (hcl : gcl G c = some l) (hb : bst (gLim K G l) (gOk K G) (n32 (gcp G c)) (hm (kD K)) = some b) (hk : ∀ f', eqS (scXS s) f f' → XB f' σ s K (gSell K c l b G) → LM f' s K (gSell K c l b G) → SA f' s K (gSell K c l b G) → f' s 3 = n32 (gsec G) → (∀ c, c < 3 → f' (s + 40 + 2 * c) 3 = f (s + 40 + 2 * c) 3) → Ok (k (mk σ f')) Q) : Ok (oB (F_X9_sell N s (s + 40 + 2 * c) (n32 b) (mk σ f)) fun y2 σ3 => oB (F_X9_settle N s (n32 c) (aI σ3 (s + 40 + 2 * c) 1) σ3) fun y7 σ8 => k σ8) Q := by
  have hs' := hs
  unfold isS at hs'
  have n24 := hK.1.1
  have m6 := hK.1.2.1
  have hnx := hG.1
  have hgo := hG.2.1
  have hlx := hG.2.2.1 c l hc hcl
  have hbs := bst_some hb
  have hkl := hK.2 l (by omega)
  have dl := hK.1.2.2.1 l (by omega)
  have db := hK.1.2.2.2.1 b hbs.1
  have hleft : gcp G c * lo (kD K) 3 l ≤ cr (kD K) b - gsp G b := lim_left dl.2.2.2.1 (by omega) hlx.2.2.2 db.2 hbs.2.2
  have hmon : gcp G c * lo (kD K) 3 l ≤ 999 * 20 := Nat.mul_le_mul hlx.2.2.2 dl.2.2.2.2.1
  have hnl : gnl G b ≤ 24 := by
    rw [hG.2.2.2.2.2.2.2.1 b]
    have : ∀ L, cntb (gre G) b L ≤ L := by
      intro L
      induction L with
      | zero => exact Nat.le_refl _
      | succ L ih =>
        rw [cntb]
        have : (isB (gre G L) b).toNat ≤ 1 := Bool.toNat_le _
        omega
    exact this 24
  have hha : ∀ k, gha G b k ≤ 480 := fun k => by have := hG.2.2.2.2.2.2.1.1 b k; omega
  obtain ⟨x1, ⟨x2, x3, x4, x5⟩, x6, x7, x8, x9, x10⟩ := hX
  have el : f (s + 40 + 2 * c) 0 = n32 l := by rw [x6 c hc, hcl]; rfl
  obtain ⟨ep, ele⟩ := x7 c l hc hcl
  have ebx : f (23 + l) 3 = n32 (lo (kD K) 3 l) := x1.1.2.2.1 3 l (by omega) (by omega)
  have eki : f (23 + l) 1 = n32 (lo (kD K) 1 l) := x1.1.2.2.1 1 l (by omega) (by omega)
  obtain ⟨⟨p0, pk⟩, p1, p2⟩ := x8 b hbs.1
  have pkk := pk (lo (kD K) 1 l) (by omega)
  have ediv : n32 (gcp G c * lo (kD K) 3 l * 3) / n32 100 = n32 (gcp G c * lo (kD K) 3 l * 3 / 100) := n32_div (by omega) (by omega)
  unfold F_X9_sell F_X7_pay F_X9_settle
  refine ok_oB ?_
  repeat (first | with_reducible refine ok_W ?_ | with_reducible refine ok_cO (by first | assumption | omega | (simp (disch := omega) only [n32_of, neg_n32_1, n32_nat, n32_lt, n32_le, n32_eq, n32_add, n32_sub, n32_mul, n32_m1, m1_n32, n32_addm1, m1_lt, lt_m1, m1_le, le_m1, m1_add1, ofNat_n32, u2_self, u2_n, mk_I, mk_T, ne_eq, not_true_eq_false, not_false_eq_true, el]; first | done | omega)) ?_ | with_reducible refine ok_ip (by first | assumption | omega | (simp (disch := omega) only [n32_of, neg_n32_1, n32_nat, n32_lt, n32_le, n32_eq, n32_add, n32_sub, n32_mul, n32_m1, m1_n32, n32_addm1, m1_lt, lt_m1, m1_le, le_m1, m1_add1, ofNat_n32, u2_self, u2_n, mk_I, mk_T, ne_eq, not_true_eq_false, not_false_eq_true, el]; first | done | omega)) ?_ | with_reducible refine ok_in (by first | assumption | omega | (simp (disch := omega) only [n32_of, neg_n32_1, n32_nat, n32_lt, n32_le, n32_eq, n32_add, n32_sub, n32_mul, n32_m1, m1_n32, n32_addm1, m1_lt, lt_m1, m1_le, le_m1, m1_add1, ofNat_n32, u2_self, u2_n, mk_I, mk_T, ne_eq, not_true_eq_false, not_false_eq_true, el]; first | done | omega)) ?_)
  refine ok_oB ?_
  repeat (first | with_reducible refine ok_W ?_ | with_reducible refine ok_cO (by first | assumption | omega | (simp (disch := omega) only [n32_of, neg_n32_1, n32_nat, n32_lt, n32_le, n32_eq, n32_add, n32_sub, n32_mul, n32_m1, m1_n32, n32_addm1, m1_lt, lt_m1, m1_le, le_m1, m1_add1, ofNat_n32, u2_self, u2_n, mk_I, mk_T, ne_eq, not_true_eq_false, not_false_eq_true, el, eki]; first | done | omega)) ?_ | with_reducible refine ok_ip (by first | assumption | omega | (simp (disch := omega) only [n32_of, neg_n32_1, n32_nat, n32_lt, n32_le, n32_eq, n32_add, n32_sub, n32_mul, n32_m1, m1_n32, n32_addm1, m1_lt, lt_m1, m1_le, le_m1, m1_add1, ofNat_n32, u2_self, u2_n, mk_I, mk_T, ne_eq, not_true_eq_false, not_false_eq_true, el, eki]; first | done | omega)) ?_ | with_reducible refine ok_in (by first | assumption | omega | (simp (disch := omega) only [n32_of, neg_n32_1, n32_nat, n32_lt, n32_le, n32_eq, n32_add, n32_sub, n32_mul, n32_m1, m1_n32, n32_addm1, m1_lt, lt_m1, m1_le, le_m1, m1_add1, ofNat_n32, u2_self, u2_n, mk_I, mk_T, ne_eq, not_true_eq_false, not_false_eq_true, el, eki]; first | done | omega)) ?_)
  refine ok_some (ok_some ?_)
  refine ok_oB ?_
  repeat (first | with_reducible refine ok_W ?_ | with_reducible refine ok_cO (by first | assumption | omega | (simp (disch := omega) only [n32_of, neg_n32_1, n32_nat, n32_lt, n32_le, n32_eq, n32_add, n32_sub, n32_mul, n32_m1, m1_n32, n32_addm1, m1_lt, lt_m1, m1_le, le_m1, m1_add1, ofNat_n32, u2_self, u2_n, mk_I, mk_T, ne_eq, not_true_eq_false, not_false_eq_true, el, eki]; first | done | omega)) ?_ | with_reducible refine ok_ip (by first | assumption | omega | (simp (disch := omega) only [n32_of, neg_n32_1, n32_nat, n32_lt, n32_le, n32_eq, n32_add, n32_sub, n32_mul, n32_m1, m1_n32, n32_addm1, m1_lt, lt_m1, m1_le, le_m1, m1_add1, ofNat_n32, u2_self, u2_n, mk_I, mk_T, ne_eq, not_true_eq_false, not_false_eq_true, el, eki]; first | done | omega)) ?_ | with_reducible refine ok_in (by first | assumption | omega | (simp (disch := omega) only [n32_of, neg_n32_1, n32_nat, n32_lt, n32_le, n32_eq, n32_add, n32_sub, n32_mul, n32_m1, m1_n32, n32_addm1, m1_lt, lt_m1, m1_le, le_m1, m1_add1, ofNat_n32, u2_self, u2_n, mk_I, mk_T, ne_eq, not_true_eq_false, not_false_eq_true, el, eki]; first | done | omega)) ?_)
  refine ok_some ?_
  simp (disch := omega) only [n32_of, neg_n32_1, n32_nat, n32_lt, n32_le, n32_eq, n32_add, n32_sub, n32_mul, n32_m1, m1_n32, n32_addm1, m1_lt, lt_m1, m1_le, le_m1, m1_add1, ofNat_n32, u2_self, u2_n, mk_I, mk_T, el, eki, ebx, ep, p0, p1, p2, pkk, x3, x5, ediv]
  refine hk _ ?_ ⟨XC_S hs hK.1 x1 ?_, ⟨?_, ?_, ?_, ?_⟩, ?_, ?_, ?_, ?_, ?_⟩ ?_ ?_ ?_ ?_
  · intro a k ha
    simp (disch := omega) only [n32_of, neg_n32_1, n32_nat, n32_lt, n32_le, n32_eq, n32_add, n32_sub, n32_mul, n32_m1, m1_n32, n32_addm1, m1_lt, lt_m1, m1_le, le_m1, m1_add1, ofNat_n32, u2_self, u2_n, mk_I, mk_T, ]
  · intro a k ha
    simp (disch := omega) only [n32_of, neg_n32_1, n32_nat, n32_lt, n32_le, n32_eq, n32_add, n32_sub, n32_mul, n32_m1, m1_n32, n32_addm1, m1_lt, lt_m1, m1_le, le_m1, m1_add1, ofNat_n32, u2_self, u2_n, mk_I, mk_T, ]
  · simp (disch := omega) only [n32_of, neg_n32_1, n32_nat, n32_lt, n32_le, n32_eq, n32_add, n32_sub, n32_mul, n32_m1, m1_n32, n32_addm1, m1_lt, lt_m1, m1_le, le_m1, m1_add1, ofNat_n32, u2_self, u2_n, mk_I, mk_T, ]; exact x2
  · simp (disch := omega) only [n32_of, neg_n32_1, n32_nat, n32_lt, n32_le, n32_eq, n32_add, n32_sub, n32_mul, n32_m1, m1_n32, n32_addm1, m1_lt, lt_m1, m1_le, le_m1, m1_add1, ofNat_n32, u2_self, u2_n, mk_I, mk_T, ]; exact x3
  · simp (disch := omega) only [n32_of, neg_n32_1, n32_nat, n32_lt, n32_le, n32_eq, n32_add, n32_sub, n32_mul, n32_m1, m1_n32, n32_addm1, m1_lt, lt_m1, m1_le, le_m1, m1_add1, ofNat_n32, u2_self, u2_n, mk_I, mk_T, ]; exact x4
  · simp (disch := omega) only [n32_of, neg_n32_1, n32_nat, n32_lt, n32_le, n32_eq, n32_add, n32_sub, n32_mul, n32_m1, m1_n32, n32_addm1, m1_lt, lt_m1, m1_le, le_m1, m1_add1, ofNat_n32, u2_self, u2_n, mk_I, mk_T, ]; rfl
  · intro c' hc'
    show _ = oI (fu (gcl G) c none c')
    by_cases e : c' = c
    · subst e
      rw [fu_at]
      simp (disch := omega) only [n32_of, neg_n32_1, n32_nat, n32_lt, n32_le, n32_eq, n32_add, n32_sub, n32_mul, n32_m1, m1_n32, n32_addm1, m1_lt, lt_m1, m1_le, le_m1, m1_add1, ofNat_n32, u2_self, u2_n, mk_I, mk_T, ]
      rfl
    · rw [fu_ne e]
      simp (disch := omega) only [n32_of, neg_n32_1, n32_nat, n32_lt, n32_le, n32_eq, n32_add, n32_sub, n32_mul, n32_m1, m1_n32, n32_addm1, m1_lt, lt_m1, m1_le, le_m1, m1_add1, ofNat_n32, u2_self, u2_n, mk_I, mk_T, ]
      exact x6 c' hc'
  · intro c' l' hc' hl'
    have hl2 : fu (gcl G) c none c' = some l' := hl'
    by_cases e : c' = c
    · subst e
      rw [fu_at] at hl2
      cases hl2
    · rw [fu_ne e] at hl2
      simp (disch := omega) only [n32_of, neg_n32_1, n32_nat, n32_lt, n32_le, n32_eq, n32_add, n32_sub, n32_mul, n32_m1, m1_n32, n32_addm1, m1_lt, lt_m1, m1_le, le_m1, m1_add1, ofNat_n32, u2_self, u2_n, mk_I, mk_T, ]
      exact x7 c' l' hc' hl2
  · intro b' hb'
    have h8 := x8 b' hb'
    by_cases e : b' = b
    · subst e
      refine ⟨⟨?_, fun k hk => ?_⟩, ?_, ?_⟩
      · show _ = n32 (cr (kD K) b' - fu (gsp G) b' (gsp G b' + gcp G c * lo (kD K) 3 l) b')
        rw [fu_at, ← Nat.sub_sub]
        simp (disch := omega) only [n32_of, neg_n32_1, n32_nat, n32_lt, n32_le, n32_eq, n32_add, n32_sub, n32_mul, n32_m1, m1_n32, n32_addm1, m1_lt, lt_m1, m1_le, le_m1, m1_add1, ofNat_n32, u2_self, u2_n, mk_I, mk_T, ]
      · show _ = n32 (fu (gha G) b' (fu (gha G b') (lo (kD K) 1 l) (gha G b' (lo (kD K) 1 l) + lo (kD K) 3 l)) b' k)
        rw [fu_at]
        by_cases e2 : k = lo (kD K) 1 l
        · subst e2
          rw [fu_at]
          simp (disch := omega) only [n32_of, neg_n32_1, n32_nat, n32_lt, n32_le, n32_eq, n32_add, n32_sub, n32_mul, n32_m1, m1_n32, n32_addm1, m1_lt, lt_m1, m1_le, le_m1, m1_add1, ofNat_n32, u2_self, u2_n, mk_I, mk_T, ]
        · rw [fu_ne e2]
          simp (disch := omega) only [n32_of, neg_n32_1, n32_nat, n32_lt, n32_le, n32_eq, n32_add, n32_sub, n32_mul, n32_m1, m1_n32, n32_addm1, m1_lt, lt_m1, m1_le, le_m1, m1_add1, ofNat_n32, u2_self, u2_n, mk_I, mk_T, ]
          exact pk k hk
      · show _ = n32 (sum6 (fu (gha G) b' (fu (gha G b') (lo (kD K) 1 l) (gha G b' (lo (kD K) 1 l) + lo (kD K) 3 l)) b'))
        rw [fu_at, sum6_fu (by omega)]
        simp (disch := omega) only [n32_of, neg_n32_1, n32_nat, n32_lt, n32_le, n32_eq, n32_add, n32_sub, n32_mul, n32_m1, m1_n32, n32_addm1, m1_lt, lt_m1, m1_le, le_m1, m1_add1, ofNat_n32, u2_self, u2_n, mk_I, mk_T, ]
      · show _ = n32 (fu (gnl G) b' (gnl G b' + 1) b')
        rw [fu_at]
        simp (disch := omega) only [n32_of, neg_n32_1, n32_nat, n32_lt, n32_le, n32_eq, n32_add, n32_sub, n32_mul, n32_m1, m1_n32, n32_addm1, m1_lt, lt_m1, m1_le, le_m1, m1_add1, ofNat_n32, u2_self, u2_n, mk_I, mk_T, ]
    · refine ⟨⟨?_, fun k hk => ?_⟩, ?_, ?_⟩
      · show _ = n32 (cr (kD K) b' - fu (gsp G) b (gsp G b + gcp G c * lo (kD K) 3 l) b')
        rw [fu_ne e]
        simp (disch := omega) only [n32_of, neg_n32_1, n32_nat, n32_lt, n32_le, n32_eq, n32_add, n32_sub, n32_mul, n32_m1, m1_n32, n32_addm1, m1_lt, lt_m1, m1_le, le_m1, m1_add1, ofNat_n32, u2_self, u2_n, mk_I, mk_T, ]
        exact h8.1.1
      · show _ = n32 (fu (gha G) b (fu (gha G b) (lo (kD K) 1 l) (gha G b (lo (kD K) 1 l) + lo (kD K) 3 l)) b' k)
        rw [fu_ne e]
        simp (disch := omega) only [n32_of, neg_n32_1, n32_nat, n32_lt, n32_le, n32_eq, n32_add, n32_sub, n32_mul, n32_m1, m1_n32, n32_addm1, m1_lt, lt_m1, m1_le, le_m1, m1_add1, ofNat_n32, u2_self, u2_n, mk_I, mk_T, ]
        exact h8.1.2 k hk
      · show _ = n32 (sum6 (fu (gha G) b (fu (gha G b) (lo (kD K) 1 l) (gha G b (lo (kD K) 1 l) + lo (kD K) 3 l)) b'))
        rw [fu_ne e]
        simp (disch := omega) only [n32_of, neg_n32_1, n32_nat, n32_lt, n32_le, n32_eq, n32_add, n32_sub, n32_mul, n32_m1, m1_n32, n32_addm1, m1_lt, lt_m1, m1_le, le_m1, m1_add1, ofNat_n32, u2_self, u2_n, mk_I, mk_T, ]
        exact h8.2.1
      · show _ = n32 (fu (gnl G) b (gnl G b + 1) b')
        rw [fu_ne e]
        simp (disch := omega) only [n32_of, neg_n32_1, n32_nat, n32_lt, n32_le, n32_eq, n32_add, n32_sub, n32_mul, n32_m1, m1_n32, n32_addm1, m1_lt, lt_m1, m1_le, le_m1, m1_add1, ofNat_n32, u2_self, u2_n, mk_I, mk_T, ]
        exact h8.2.2
  · intro l' hl'
    have h9 := x9 l' hl'
    refine ⟨?_, ?_, ?_, ?_⟩
    · show _ = oI (toB (fu (gre G) l (some (some b, gcp G c, gsec G, c)) l'))
      by_cases e : l' = l
      · subst e
        rw [fu_at]
        simp (disch := omega) only [n32_of, neg_n32_1, n32_nat, n32_lt, n32_le, n32_eq, n32_add, n32_sub, n32_mul, n32_m1, m1_n32, n32_addm1, m1_lt, lt_m1, m1_le, le_m1, m1_add1, ofNat_n32, u2_self, u2_n, mk_I, mk_T, ]
        rfl
      · rw [fu_ne e]
        simp (disch := omega) only [n32_of, neg_n32_1, n32_nat, n32_lt, n32_le, n32_eq, n32_add, n32_sub, n32_mul, n32_m1, m1_n32, n32_addm1, m1_lt, lt_m1, m1_le, le_m1, m1_add1, ofNat_n32, u2_self, u2_n, mk_I, mk_T, ]
        exact h9.1
    · simp (disch := omega) only [n32_of, neg_n32_1, n32_nat, n32_lt, n32_le, n32_eq, n32_add, n32_sub, n32_mul, n32_m1, m1_n32, n32_addm1, m1_lt, lt_m1, m1_le, le_m1, m1_add1, ofNat_n32, u2_self, u2_n, mk_I, mk_T, ]; exact h9.2.1
    · simp (disch := omega) only [n32_of, neg_n32_1, n32_nat, n32_lt, n32_le, n32_eq, n32_add, n32_sub, n32_mul, n32_m1, m1_n32, n32_addm1, m1_lt, lt_m1, m1_le, le_m1, m1_add1, ofNat_n32, u2_self, u2_n, mk_I, mk_T, ]; exact h9.2.2.1
    · simp (disch := omega) only [n32_of, neg_n32_1, n32_nat, n32_lt, n32_le, n32_eq, n32_add, n32_sub, n32_mul, n32_m1, m1_n32, n32_addm1, m1_lt, lt_m1, m1_le, le_m1, m1_add1, ofNat_n32, u2_self, u2_n, mk_I, mk_T, ]; exact h9.2.2.2
  · intro l' r' hr'
    have hr2 : fu (gre G) l (some (some b, gcp G c, gsec G, c)) l' = some r' := hr'
    by_cases e : l' = l
    · subst e
      rw [fu_at] at hr2
      cases hr2
      refine ⟨?_, ?_, ?_, ?_⟩ <;> simp (disch := omega) only [n32_of, neg_n32_1, n32_nat, n32_lt, n32_le, n32_eq, n32_add, n32_sub, n32_mul, n32_m1, m1_n32, n32_addm1, m1_lt, lt_m1, m1_le, le_m1, m1_add1, ofNat_n32, u2_self, u2_n, mk_I, mk_T, ] <;> rfl
    · rw [fu_ne e] at hr2
      have hl24 : l' < gnx G := Nat.lt_of_not_le (fun q => by have := hG.2.2.2.2.2.1 l' q; rw [hr2] at this; cases this)
      simp (disch := omega) only [n32_of, neg_n32_1, n32_nat, n32_lt, n32_le, n32_eq, n32_add, n32_sub, n32_mul, n32_m1, m1_n32, n32_addm1, m1_lt, lt_m1, m1_le, le_m1, m1_add1, ofNat_n32, u2_self, u2_n, mk_I, mk_T, ]
      exact x10 l' r' hr2
  · intro c' l' hc' hl' b' hb' hg'
    have hl2 : fu (gcl G) c none c' = some l' := hl'
    have hg2 : fu (gst G) b true b' = false := hg'
    have eb : b' ≠ b := fun q => by rw [q, fu_at] at hg2; cases hg2
    rw [fu_ne eb] at hg2
    have ec : c' ≠ c := fun q => by rw [q, fu_at] at hl2; cases hl2
    rw [fu_ne ec] at hl2
    rw [gSell_X eb]
    simp (disch := omega) only [n32_of, neg_n32_1, n32_nat, n32_lt, n32_le, n32_eq, n32_add, n32_sub, n32_mul, n32_m1, m1_n32, n32_addm1, m1_lt, lt_m1, m1_le, le_m1, m1_add1, ofNat_n32, u2_self, u2_n, mk_I, mk_T, ]
    exact hL c' l' hc' hl2 b' hb' hg2
  · intro b' hb'
    by_cases e : b' = b
    · subst e
      refine ⟨some (gsec G), ?_, fun t ht => by cases ht; exact Nat.le_refl _, ?_⟩
      · simp (disch := omega) only [n32_of, neg_n32_1, n32_nat, n32_lt, n32_le, n32_eq, n32_add, n32_sub, n32_mul, n32_m1, m1_n32, n32_addm1, m1_lt, lt_m1, m1_le, le_m1, m1_add1, ofNat_n32, u2_self, u2_n, mk_I, mk_T, ]; rfl
      · show fu (gst G) b' true b' = true ↔ _
        rw [fu_at]
        exact ⟨fun _ => rfl, fun _ => rfl⟩
    · obtain ⟨o, o1, o2, o3⟩ := hA b' hb'
      refine ⟨o, ?_, o2, ?_⟩
      · simp (disch := omega) only [n32_of, neg_n32_1, n32_nat, n32_lt, n32_le, n32_eq, n32_add, n32_sub, n32_mul, n32_m1, m1_n32, n32_addm1, m1_lt, lt_m1, m1_le, le_m1, m1_add1, ofNat_n32, u2_self, u2_n, mk_I, mk_T, ]; exact o1
      · show fu (gst G) b true b' = true ↔ _
        rw [fu_ne e]
        exact o3
  · simp (disch := omega) only [n32_of, neg_n32_1, n32_nat, n32_lt, n32_le, n32_eq, n32_add, n32_sub, n32_mul, n32_m1, m1_n32, n32_addm1, m1_lt, lt_m1, m1_le, le_m1, m1_add1, ofNat_n32, u2_self, u2_n, mk_I, mk_T, ]
  · intro c' hc'
    simp (disch := omega) only [n32_of, neg_n32_1, n32_nat, n32_lt, n32_le, n32_eq, n32_add, n32_sub, n32_mul, n32_m1, m1_n32, n32_addm1, m1_lt, lt_m1, m1_le, le_m1, m1_add1, ofNat_n32, u2_self, u2_n, mk_I, mk_T, ]
theorem x_stopc {N s n c : Nat} {σ : aSt} {K : SP} {G : SG} {f : Nat → Nat → Int32} {Q : Unit → aSt → Prop} (hN : 1000 ≤ N) (hs : isS s) (hK : KOK K) (hG : GI K G) (hsec : gsec G < 100000) (hX : XB f σ s K G) (hL : LM f s K G) (hA : SA f s K G) (hc : c < 3) (hn0 : 0 < n) (hk : ∀ f', eqS (scXS s) f f' → XB f' σ s K (gStop K c G) → LM f' s K (gStop K c G) → SA f' s K (gStop K c G) → ((f' s 3 = f s 3 ∧ ggo (gStop K c G) = ggo G) ∨ f' s 3 = n32 (gsec G)) → (∀ c, c < 3 → f' (s + 40 + 2 * c) 3 = f (s + 40 + 2 * c) 3) → Ok (H_X9_stopClocks_2 N (n - 1) s (n32 (c + 1)) (mk σ f')) Q) : Ok (H_X9_stopClocks_2 N n s (n32 c) (mk σ f)) Q := by
  obtain ⟨n, rfl⟩ : ∃ m, n = m + 1 := ⟨n - 1, by omega⟩
  rw [Nat.add_sub_cancel] at hk
  have hs' := hs
  unfold isS at hs'
  have n24 := hK.1.1
  have m6 := hK.1.2.1
  have hnx := hG.1
  have hcl := hX.2.2.1 c hc
  rw [H_X9_stopClocks_2]
  unfold J_X9_stopClocks_30 J_X9_stopClocks_51
  with_reducible refine ok_in (by first | assumption | omega | (simp (disch := omega) only [n32_of, neg_n32_1, n32_nat, n32_lt, n32_le, n32_eq, n32_add, n32_sub, n32_mul, n32_m1, m1_n32, n32_addm1, m1_lt, lt_m1, m1_le, le_m1, m1_add1, ofNat_n32, u2_self, u2_n, mk_I, mk_T, ne_eq, not_true_eq_false, not_false_eq_true, ]; first | done | omega)) ?_
  with_reducible refine ok_cO (by first | assumption | omega | (simp (disch := omega) only [n32_of, neg_n32_1, n32_nat, n32_lt, n32_le, n32_eq, n32_add, n32_sub, n32_mul, n32_m1, m1_n32, n32_addm1, m1_lt, lt_m1, m1_le, le_m1, m1_add1, ofNat_n32, u2_self, u2_n, mk_I, mk_T, ne_eq, not_true_eq_false, not_false_eq_true, ]; first | done | omega)) ?_
  rw [s_isEmpty, oB_s]
  cases hcc : gcl G c with
  | none =>
    have hgs : gStop K c G = G := by simp only [gStop, hcc]
    rw [hgs] at hk
    rw [hcc] at hcl
    with_reducible refine ok_in ?_ ?_
    · rw [bI_0]
      intro q
      apply q
      simp (disch := omega) only [n32_of, neg_n32_1, n32_nat, n32_lt, n32_le, n32_eq, n32_add, n32_sub, n32_mul, n32_m1, m1_n32, n32_addm1, m1_lt, lt_m1, m1_le, le_m1, m1_add1, ofNat_n32, u2_self, u2_n, mk_I, mk_T, hcl]
      rfl
    with_reducible refine ok_ip ?_ ?_
    · rfl
    simp (disch := omega) only [n32_of, neg_n32_1, n32_nat, n32_lt, n32_le, n32_eq, n32_add, n32_sub, n32_mul, n32_m1, m1_n32, n32_addm1, m1_lt, lt_m1, m1_le, le_m1, m1_add1, ofNat_n32, u2_self, u2_n, mk_I, mk_T, ]
    exact hk f eqS_rfl hX hL hA (Or.inl ⟨rfl, rfl⟩) (fun _ _ => rfl)
  | some l =>
    have hlx := hG.2.2.1 c l hc hcc
    have hkl := hK.2 l (by omega)
    have hcl' : f (s + 40 + 2 * c) 0 = n32 l := by rw [hcl, hcc]; rfl
    with_reducible refine ok_ip ?_ ?_
    · rw [bI_0]
      simp (disch := omega) only [n32_of, neg_n32_1, n32_nat, n32_lt, n32_le, n32_eq, n32_add, n32_sub, n32_mul, n32_m1, m1_n32, n32_addm1, m1_lt, lt_m1, m1_le, le_m1, m1_add1, ofNat_n32, u2_self, u2_n, mk_I, mk_T, hcl']
      exact not_false
    unfold F_X9_whoStops
    simp (disch := omega) only [n32_of, neg_n32_1, n32_nat, n32_lt, n32_le, n32_eq, n32_add, n32_sub, n32_mul, n32_m1, m1_n32, n32_addm1, m1_lt, lt_m1, m1_le, le_m1, m1_add1, ofNat_n32, u2_self, u2_n, mk_I, mk_T, ]
    have hw := x_who (N := N) (σ := σ) hs hK hG hsec hX hL hA hc hcc N 0 (by omega) (by omega)
    refine ok_bind hw (fun y σ1 hq => ?_)
    obtain ⟨rfl, rfl⟩ := hq
    rw [bst_X (by omega) (by omega)]
    cases hb : bst (gLim K G l) (gOk K G) (n32 (gcp G c)) (hm (kD K)) with
    | none =>
      have hgs : gStop K c G = G := by simp only [gStop, hcc, hb]
      rw [hgs] at hk
      with_reducible refine ok_ip ?_ ?_
      · rfl
      exact hk f eqS_rfl hX hL hA (Or.inl ⟨rfl, rfl⟩) (fun _ _ => rfl)
    | some b =>
      have hgs : gStop K c G = gSell K c l b G := by simp only [gStop, hcc, hb]
      rw [hgs] at hk
      have hbs := bst_some hb
      with_reducible refine ok_in ?_ ?_
      · exact oI_ne (by omega)
      exact x_sell hs hK hG hsec hX hL hA hc hcc hb (fun f' e1 e2 e3 e4 e5 e6 => hk f' e1 e2 e3 e4 (Or.inr e5) e6) (k := fun σ8 => H_X9_stopClocks_2 N n s (n32 (c + 1)) σ8)
