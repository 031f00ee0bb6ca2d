/-- the reference comes from one point to another -/
def RP (N : Nat) (σ : aSt) (x1 : Int32) (K : SP) (G G' : SG) : Prop := ∀ (Q : Int32 → aSt → Prop) (fr : Nat → Nat → Int32) (n : Nat), RS fr K G → 1000 * (hn (kD K) - ggo G) + 1 ≤ n → (∀ (n' : Nat) (fr' : Nat → Nat → Int32), 1000 * (hn (kD K) - ggo G') + 1 ≤ n' → RS fr' K G' → eqS scS fr fr' → Ok (H_X12_goes_113 N n' x1 (n32 (gnx G')) (n32 (ggo G')) (pre (gsec G')) (mk σ fr')) Q) → Ok (H_X12_goes_113 N n x1 (n32 (gnx G)) (n32 (ggo G)) (pre (gsec G)) (mk σ fr)) Q
theorem RP_rfl {N : Nat} {σ : aSt} {x1 : Int32} {K : SP} {G : SG} : RP N σ x1 K G G := fun Q fr n hR hn0 h => h n fr hn0 hR eqS_rfl
theorem RP_tr {N : Nat} {σ : aSt} {x1 : Int32} {K : SP} {G1 G2 G3 : SG} (h1 : RP N σ x1 K G1 G2) (h2 : RP N σ x1 K G2 G3) : RP N σ x1 K G1 G3 := fun Q fr n hR hn0 h => h1 Q fr n hR hn0 (fun n' fr' hn' hR' he' => h2 Q fr' n' hR' hn' (fun n2 fr2 hn2 hR2 he2 => h n2 fr2 hn2 hR2 (eqS_tr he' he2)))
theorem gTurn_I {K : SP} {G : SG} {q : Nat} (hK : KOK K) (hG : GI K G) (hQ : QT K (gF3 K G) q) : GI K (gTurn K q G) := by
  have c0 : (0 : Nat) < 3 := by omega
  have c1 : (1 : Nat) < 3 := by omega
  have c2 : (2 : Nat) < 3 := by omega
  have hF : GI K (gF3 K G) := gFill_I hK c2 (gFill_I hK c1 (gFill_I hK c0 hG))
  exact gFall_I (gLow_I hK c2 (gLow_I hK c1 (gLow_I hK c0 (gStop_I hK c2 (gStop_I hK c1 (gStop_I hK c0 (gRest_I (quiet_I hF hQ (Nat.le_refl q)))))))))
theorem gTurn_n {K : SP} {G : SG} {q : Nat} (hK : KOK K) (hG : GI K G) (hQ : QT K (gF3 K G) q) : gsec (gTurn K q G) = gsec G + q + 1 ∧ ggo G < ggo (gTurn K q G) ∧ ggo (gTurn K q G) ≤ hn (kD K) := by
  have c0 : (0 : Nat) < 3 := by omega
  have c1 : (1 : Nat) < 3 := by omega
  have c2 : (2 : Nat) < 3 := by omega
  have hF : GI K (gF3 K G) := gFill_I hK c2 (gFill_I hK c1 (gFill_I hK c0 hG))
  have hI := gTurn_I hK hG hQ
  refine ⟨?_, ?_, ?_⟩
  · show gsec (gL3 K (gS3 K (gRest (gQuiet q (gF3 K G))))) + 1 = _
    unfold gL3 gS3
    rw [gLow_sec.1, gLow_sec.1, gLow_sec.1, gStop_sec.1, gStop_sec.1, gStop_sec.1]
    show gsec (gF3 K G) + q + 1 = _
    unfold gF3
    rw [gFill_sec.1, gFill_sec.1, gFill_sec.1]
  · have := turn_go hF hQ
    have e : ggo (gF3 K G) = ggo G := by
      unfold gF3
      rw [gFill_sec.2, gFill_sec.2, gFill_sec.2]
    rw [e] at this
    exact this
  · have h1 := hI.1
    have h2 := hI.2.1
    omega
theorem sale_core {N s : Nat} {σ σr : aSt} {K : SP} {x1 : Int32} (hN : 100000 ≤ N) (hs : isS s) (hK : KOK K) (hx1 : x1 = oI (kO K)) (hO : ∀ b, kO K = some b → b < 6) : ∀ (d n t : Nat) (G : SG) (f : Nat → Nat → Int32), hn (kD K) - ggo G ≤ d → GI K G → t ≤ ggo G → gsec G ≤ 1000 * ggo G → hn (kD K) < n + t → XH f σ s K G → Ok (H_X9_hold_7 N n s (n32 t) (mk σ f)) (fun _ σ' => ∃ G' f', σ' = mk σ f' ∧ ggo G' = hn (kD K) ∧ GI K G' ∧ (gsec G' ≤ 24000 ∧ (ggo G < hn (kD K) → gsec G < gsec G') ∧ gsec G ≤ gsec G') ∧ XH f' σ s K G' ∧ eqS (scXS s) f f' ∧ RP N σr x1 K G G') := by
  have n24 := hK.1.1
  intro d
  induction d with
  | zero =>
    intro n t G f hd hG ht hsec hn0 hX
    have hge : hn (kD K) ≤ ggo G := by omega
    have hle : ggo G ≤ hn (kD K) := by have := hG.1; have := hG.2.1; omega
    obtain ⟨n, rfl⟩ : ∃ m, n = m + 1 := ⟨n - 1, by omega⟩
    have e11 := hX.1.1.1.1
    have e8 := hX.1.2.1.2.2.2
    rw [H_X9_hold_7]
    unfold J_X9_hold_68
    have fin : Ok (some ((), mk σ f)) (fun _ σ' => ∃ G' f', σ' = mk σ f' ∧ ggo G' = hn (kD K) ∧ GI K G' ∧ (gsec G' ≤ 24000 ∧ (ggo G < hn (kD K) → gsec G < gsec G') ∧ gsec G ≤ gsec G') ∧ XH f' σ s K G' ∧ eqS (scXS s) f f' ∧ RP N σr x1 K G G') := ok_some ⟨G, f, rfl, by omega, hG, ⟨by omega, fun h => by omega, Nat.le_refl _⟩, hX, eqS_rfl, RP_rfl⟩
    with_reducible refine ok_if (fun hc => ?_) (fun hc => ?_)
    · exact fin
    · with_reducible refine ok_ip (by first | assumption | omega | (simp (disch := omega) only [n32_of, neg_n32_1, n32_nat, n32_lt, n32_le, n32_eq, n32_add, n32_sub, n32_mul, n32_m1, m1_n32, n32_addm1, m1_lt, lt_m1, m1_le, le_m1, m1_add1, ofNat_n32, u2_self, u2_n, mk_I, mk_T, ne_eq, not_true_eq_false, not_false_eq_true, e11, e8]; first | done | omega)) ?_
      exact fin
  | succ d ih =>
    intro n t G f hd hG ht hsec hn0 hX
    by_cases hge : hn (kD K) ≤ ggo G
    · exact ih n t G f (by omega) hG ht hsec hn0 hX
    · have hlt : ggo G < hn (kD K) := by omega
      refine x_turn (by omega) hs hK hO hG hlt (by omega) (by omega) hX (by omega) (fun q f' hQ hX' he' => ?_)
      obtain ⟨e1, e2, e3⟩ := gTurn_n hK hG hQ
      have hq98 := hQ.1
      refine ok_mono (ih (n - 1) (t + 1) (gTurn K q G) f' (by omega) (gTurn_I hK hG hQ) (by omega) (by omega) (by omega) hX') (fun _ σ' hq => ?_)
      obtain ⟨G', f2, rfl, g1, g2, g3, g4, g5, g6⟩ := hq
      have g3' := g3.2.2
      refine ⟨G', f2, rfl, g1, g2, ⟨g3.1, fun _ => by omega, by omega⟩, g4, eqS_tr he' g5, RP_tr ?_ g6⟩
      intro Q fr n' hR hn' hk
      refine r_turn (by omega) hK hx1 hO hG hlt (by omega) hQ (by omega) hR (fun fr' hR' he2 => ?_)
      exact hk _ fr' (by omega) hR' he2
