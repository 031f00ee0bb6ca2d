theorem ok_cOi {α : Type} {c : Prop} {inst : Decidable c} {x : Option (α × aSt)} {Q : α → aSt → Prop} (hc : c) (h : Ok x Q) : Ok (@cO _ c inst x) Q := ok_cO hc h
theorem ok_ipi {α : Type} {c : Prop} {inst : Decidable c} {x y : Option (α × aSt)} {Q : α → aSt → Prop} (hc : c) (h : Ok x Q) : Ok (@ite _ c inst x y) Q := ok_ip hc h
theorem ok_ini {α : Type} {c : Prop} {inst : Decidable c} {x y : Option (α × aSt)} {Q : α → aSt → Prop} (hc : ¬ c) (h : Ok y Q) : Ok (@ite _ c inst x y) Q := ok_in hc h
theorem ok_ifi {α : Type} {c : Prop} {inst : Decidable c} {x y : Option (α × aSt)} {Q : α → aSt → Prop} (h1 : c → Ok x Q) (h2 : ¬ c → Ok y Q) : Ok (@ite _ c inst x y) Q := ok_if h1 h2
theorem same_q {σ : aSt} {X R : aSt → Option (Int32 × aSt)} {f : pln} (h : ∀ Q : Int32 → aSt → Prop, (∀ y σ1, Ok (R σ1) (fun z σ2 => y = z ∧ ∃ f' W, σ2 = mk σ f' ∧ IV σ f' W) → Q y σ1) → Ok (X (mk σ f)) Q) : Same σ X R f := h _ (fun _ _ h => h)
theorem on_cg {D D' : HD} {Y Y' : LY} {dr : Nat → SR} {q : Nat} (h1 : hn D' = hn D) (h2 : lo D' 3 = lo D 3) (h3 : ∀ v x, v < q → x < hn D → cand D' Y' dr v x = cand D Y dr v x) (h4 : ∀ v, v < q → yr Y' v = yr Y v) : ∀ v, v ≤ q → on D' Y' dr v = on D Y dr v ∧ (v < q → slv D' Y' dr v = slv D Y dr v) := by
  have key : ∀ v, v < q → on D' Y' dr v = on D Y dr v → slv D' Y' dr v = slv D Y dr v := by
    intro v hv e
    unfold slv cdl
    rw [h1, h2, h4 v hv, cfr_cg (p := pv1 D' Y' dr v) (p' := pv1 D Y dr v) (fun x _ hx => by unfold pv1; rw [e, h3 v x hv (by omega)])]
  intro v
  induction v with
  | zero => exact fun _ => ⟨funext (fun _ => rfl), fun h => key 0 h (funext (fun _ => rfl))⟩
  | succ v ih =>
    intro hv
    have e := ih (by omega)
    have e2 : on D' Y' dr (v + 1) = on D Y dr (v + 1) := by
      funext l
      rw [on_s, on_s, e.2 (by omega), e.1]
    exact ⟨e2, fun h => key _ h e2⟩
theorem sOut_D {f : pln} {D D' : HD} {Y : LY} {s : Bool} {dr : Nat → SR} {st le : Nat → Nat} (h : sOut f D Y s dr st le) (h1 : hn D' = hn D) (h2 : lo D' = lo D) (h3 : ∀ b, b < hm D → tw D' b = tw D b) (h4 : hm D ≤ hm D') : sOut f D' Y s dr st le := by
  intro hs
  obtain ⟨a1, a2, a3⟩ := h hs
  have hc := on_cg (D := D) (D' := D') (Y := Y) (Y' := Y) (dr := dr) (q := yq Y) h1 (by rw [h2]) (fun v x hv hx => by
    unfold cand
    rw [h2]
    congr 1
    cases e : (dr x).1 with
    | none => rfl
    | some b => rw [toT_s, toT_s, h3 b ((a1 x hx).1 b e)]) (fun _ _ => rfl)
  refine ⟨fun l hl => ⟨fun b hb => Nat.lt_of_lt_of_le ((a1 l (by omega)).1 b hb) h4, (a1 l (by omega)).2⟩, fun l hl => ?_, fun v hv => ?_⟩
  · have := a2 l (by omega)
    rw [(hc (yq Y) (Nat.le_refl _)).1]
    have eb : brP D' l (dr l) = brP D l (dr l) := by unfold brP; rw [h2]
    rw [eb]
    exact this
  · rw [(hc v (by omega)).2 hv]
    obtain ⟨b1, b2, b3⟩ := a3 v hv
    exact ⟨by rw [h2]; exact b1, b2, b3⟩
theorem rng_le {x : Int32} {a b : Nat} (ha : a < 2147483648) (hb : b < 2147483648) (h1 : ¬ x < n32 a) (h2 : ¬ n32 b < x) : ∃ i, a ≤ i ∧ i ≤ b ∧ x = n32 i := by
  rw [Int32.lt_iff_toInt_lt, n32_toInt ha] at h1
  rw [Int32.lt_iff_toInt_lt, n32_toInt hb] at h2
  refine ⟨x.toInt.toNat, by omega, by omega, ?_⟩
  rw [← Int32.toInt_inj, n32_toInt (by omega)]
  omega
theorem rng_lt {x : Int32} {b : Nat} (hb : b < 2147483648) (h1 : ¬ x < 0) (h2 : x < n32 b) : ∃ i, i < b ∧ x = n32 i := n32_ex h1 (by rw [Int32.lt_iff_toInt_lt, n32_toInt hb] at h2; exact h2)
theorem hall_buyer {f f' : pln} {D : HD} {t c : Nat} (h3 : sHall f D) (hm6 : hm D < 6) (ht : t < 4) (hc : c ≤ 1000000) (e1 : ∀ a k, ftH a k → a ≠ 11 → a ≠ 235 → a ≠ 47 + 9 * hm D → ¬ (264 ≤ a ∧ a ≤ 265 ∧ k = hm D) → f' a k = f a k) (e2 : f' 11 1 = f 11 1 ∧ f' 11 3 = n32 (hm D + 1) ∧ f' 235 37 = f 235 37 ∧ f' 235 43 = n32 (hm D + 1)) (e3 : f' (47 + 9 * hm D) 0 = n32 t ∧ f' (47 + 9 * hm D) 1 = n32 c ∧ f' 264 (hm D) = n32 t ∧ f' 265 (hm D) = n32 c) : sHall f' (hn D, hm D + 1, lo D, la D, wn D, fu (cr D) (hm D) c, fu (tw D) (hm D) t) := by
  obtain ⟨⟨d1, d2, d3, d4, d5⟩, ⟨x1, x2, x3, x4, x5, x6⟩, ⟨y1, y2, y3, y4, y5, y6⟩⟩ := h3
  refine ⟨⟨d1, hm6, d3, fun b hb => ?_, d5⟩, ⟨e2.1.trans x1, e2.2.1, fun j i hj (hi : i < hn D) => (e1 _ _ (by omega) (by omega) (by omega) (by omega) (by omega)).trans (x3 j i hj hi), fun k hk => (e1 _ _ (by omega) (by omega) (by omega) (by omega) (by omega)).trans (x4 k hk), fun b hb => ?_, fun b k hb hk => (e1 _ _ (by omega) (by omega) (by omega) (by omega) (by omega)).trans (x6 b k hb hk)⟩, ⟨e2.2.2.1.trans y1, e2.2.2.2, fun j i hj (hi : i < hn D) => (e1 _ _ (by omega) (by omega) (by omega) (by omega) (by omega)).trans (y3 j i hj hi), fun k hk => (e1 _ _ (by omega) (by omega) (by omega) (by omega) (by omega)).trans (y4 k hk), fun b hb => ?_, fun b k hb hk => (e1 _ _ (by omega) (by omega) (by omega) (by omega) (by omega)).trans (y6 b k hb hk)⟩⟩
  · have hb' : b < hm D + 1 := hb
    show fu (tw D) (hm D) t b < 4 ∧ fu (cr D) (hm D) c b ≤ 1000000
    by_cases e : b = hm D
    · subst e
      rw [fu_at, fu_at]
      exact ⟨ht, hc⟩
    · rw [fu_ne e, fu_ne e]
      exact d4 b (by omega)
  · have hb' : b < hm D + 1 := hb
    show _ = n32 (fu (tw D) (hm D) t b) ∧ _ = n32 (fu (cr D) (hm D) c b)
    by_cases e : b = hm D
    · subst e
      rw [fu_at, fu_at]
      exact ⟨e3.1, e3.2.1⟩
    · rw [fu_ne e, fu_ne e]
      exact ⟨(e1 _ _ (by omega) (by omega) (by omega) (by omega) (by omega)).trans (x5 b (by omega)).1, (e1 _ _ (by omega) (by omega) (by omega) (by omega) (by omega)).trans (x5 b (by omega)).2⟩
  · have hb' : b < hm D + 1 := hb
    show _ = n32 (fu (tw D) (hm D) t b) ∧ _ = n32 (fu (cr D) (hm D) c b)
    by_cases e : b = hm D
    · subst e
      rw [fu_at, fu_at]
      exact ⟨e3.2.2.1, e3.2.2.2⟩
    · rw [fu_ne e, fu_ne e]
      exact ⟨(e1 _ _ (by omega) (by omega) (by omega) (by omega) (by omega)).trans (y5 b (by omega)).1, (e1 _ _ (by omega) (by omega) (by omega) (by omega) (by omega)).trans (y5 b (by omega)).2⟩
theorem sum6_0 {g : Nat → Nat} (h : ∀ k, g k = 0) : sum6 g = 0 := by
  unfold sum6
  simp only [h]
section OPS3
variable {N : Nat} {σ : aSt} {f : pln} {len : Nat} {D : HD} {Y : LY} {s : Bool} {dr : Nat → SR} {st le : Nat → Nat} {ha : Nat → Nat → Nat} {sp nl : Nat → Nat} {rt : Nat → List Ru} {lw : Nat → Nat}
theorem op_buyer (hN : 1000 ≤ N) (x1 x2 : Int32) (hI : IVx σ f len D Y s dr st le ha sp nl rt lw) : Same σ (F_X11_buyer N x1 x2) (F_X12_buyer N x1 x2) f := by
  have hI0 := hI
  obtain ⟨t, h2, h3, h4, h5, h6, h7, h8⟩ := hI
  have m6 := h3.1.2.1
  have e3 := h3.2.1.2.1
  have e43 := h3.2.2.2.1
  have fail : ∀ {R : Option (Int32 × aSt)}, Ok R (fun z σ2 => z = -1 ∧ σ2 = mk σ f) → Ok R (fun z σ2 => (-1 : Int32) = z ∧ ∃ f' W, σ2 = mk σ f' ∧ IV σ f' W) := fun h => ok_mono h (fun z σ2 q => ⟨q.1.symm, by rw [q.2]; exact IV_mk hI0⟩)
  refine same_q (fun Q hQ => ?_)
  unfold F_X11_buyer J_X11_buyer_18 J_X11_buyer_48
  simp only [s_isBelow, s_isWithin, oB_s, bI_0, bI_n0]
  by_cases hv : (¬ x1 < 0 ∧ x1 < 4) ∧ (¬ x2 < 0 ∧ ¬ 1000000 < x2)
  · obtain ⟨v1, v2⟩ := hv
    obtain ⟨b, g1, rfl⟩ := rng_lt (b := 4) (by omega) v1.1 v1.2
    obtain ⟨c, g2, g3, rfl⟩ := rng_le (a := 0) (b := 1000000) (by omega) (by omega) v2.1 v2.2
    with_reducible refine ok_ini ?_ ?_
    · exact fun q => q v1
    with_reducible refine ok_ipi ?_ ?_
    · exact v2
    unfold F_X2_admit
    refine ok_oB ?_
    by_cases hm6 : hm D < 6
    · repeat (first | with_reducible refine ok_W ?_ | with_reducible refine ok_cOi (by first | assumption | omega | (simp (disch := omega) only [n32_of, neg_n32_1, n32_nat, n32_lt, n32_le, n32_eq, n32_add, n32_sub, n32_mul, n32_m1, m1_n32, n32_addm1, m1_lt, lt_m1, m1_le, le_m1, m1_add1, ofNat_n32, u2_self, u2_n, mk_I, mk_T, ne_eq, not_true_eq_false, not_false_eq_true, e3]; first | done | omega)) ?_ | with_reducible refine ok_ipi (by first | assumption | omega | (simp (disch := omega) only [n32_of, neg_n32_1, n32_nat, n32_lt, n32_le, n32_eq, n32_add, n32_sub, n32_mul, n32_m1, m1_n32, n32_addm1, m1_lt, lt_m1, m1_le, le_m1, m1_add1, ofNat_n32, u2_self, u2_n, mk_I, mk_T, ne_eq, not_true_eq_false, not_false_eq_true, e3]; first | done | omega)) ?_ | with_reducible refine ok_ini (by first | assumption | omega | (simp (disch := omega) only [n32_of, neg_n32_1, n32_nat, n32_lt, n32_le, n32_eq, n32_add, n32_sub, n32_mul, n32_m1, m1_n32, n32_addm1, m1_lt, lt_m1, m1_le, le_m1, m1_add1, ofNat_n32, u2_self, u2_n, mk_I, mk_T, ne_eq, not_true_eq_false, not_false_eq_true, e3]; first | done | omega)) ?_)
      refine ok_some ?_
      simp (disch := omega) only [n32_of, neg_n32_1, n32_nat, n32_lt, n32_le, n32_eq, n32_add, n32_sub, n32_mul, n32_m1, m1_n32, n32_addm1, m1_lt, lt_m1, m1_le, le_m1, m1_add1, ofNat_n32, u2_self, u2_n, mk_I, mk_T, e3, Nat.add_sub_cancel]
      with_reducible refine ok_ini (by first | assumption | omega | (simp (disch := omega) only [n32_of, neg_n32_1, n32_nat, n32_lt, n32_le, n32_eq, n32_add, n32_sub, n32_mul, n32_m1, m1_n32, n32_addm1, m1_lt, lt_m1, m1_le, le_m1, m1_add1, ofNat_n32, u2_self, u2_n, mk_I, mk_T, ne_eq, not_true_eq_false, not_false_eq_true, ]; first | done | omega)) ?_
      with_reducible refine ok_cOi (by first | assumption | omega | (simp (disch := omega) only [n32_of, neg_n32_1, n32_nat, n32_lt, n32_le, n32_eq, n32_add, n32_sub, n32_mul, n32_m1, m1_n32, n32_addm1, m1_lt, lt_m1, m1_le, le_m1, m1_add1, ofNat_n32, u2_self, u2_n, mk_I, mk_T, ne_eq, not_true_eq_false, not_false_eq_true, ]; first | done | omega)) ?_
      refine ok_oB (ok_mono (x_open hN) ?_)
      rintro _ _ ⟨f1, rfl, q0, o0, o1, o2, o4, o5⟩
      refine ok_some (hQ _ _ ?_)
      unfold F_X12_buyer J_X12_buyer_29
      have r43 : f1 235 43 = n32 (hm D) := (q0 _ _ (by omega)).trans (by simp (disch := omega) only [n32_of, neg_n32_1, n32_nat, n32_lt, n32_le, n32_eq, n32_add, n32_sub, n32_mul, n32_m1, m1_n32, n32_addm1, m1_lt, lt_m1, m1_le, le_m1, m1_add1, ofNat_n32, u2_self, u2_n, mk_I, mk_T, e43])
      repeat (first | with_reducible refine ok_W ?_ | with_reducible refine ok_cOi (by first | assumption | omega | (simp (disch := omega) only [n32_of, neg_n32_1, n32_nat, n32_lt, n32_le, n32_eq, n32_add, n32_sub, n32_mul, n32_m1, m1_n32, n32_addm1, m1_lt, lt_m1, m1_le, le_m1, m1_add1, ofNat_n32, u2_self, u2_n, mk_I, mk_T, ne_eq, not_true_eq_false, not_false_eq_true, r43]; first | done | omega)) ?_ | with_reducible refine ok_ipi (by first | assumption | omega | (simp (disch := omega) only [n32_of, neg_n32_1, n32_nat, n32_lt, n32_le, n32_eq, n32_add, n32_sub, n32_mul, n32_m1, m1_n32, n32_addm1, m1_lt, lt_m1, m1_le, le_m1, m1_add1, ofNat_n32, u2_self, u2_n, mk_I, mk_T, ne_eq, not_true_eq_false, not_false_eq_true, r43]; first | done | omega)) ?_ | with_reducible refine ok_ini (by first | assumption | omega | (simp (disch := omega) only [n32_of, neg_n32_1, n32_nat, n32_lt, n32_le, n32_eq, n32_add, n32_sub, n32_mul, n32_m1, m1_n32, n32_addm1, m1_lt, lt_m1, m1_le, le_m1, m1_add1, ofNat_n32, u2_self, u2_n, mk_I, mk_T, ne_eq, not_true_eq_false, not_false_eq_true, r43]; first | done | omega)) ?_)
      simp (disch := omega) only [n32_of, neg_n32_1, n32_nat, n32_lt, n32_le, n32_eq, n32_add, n32_sub, n32_mul, n32_m1, m1_n32, n32_addm1, m1_lt, lt_m1, m1_le, le_m1, m1_add1, ofNat_n32, u2_self, u2_n, mk_I, mk_T, r43, Nat.add_sub_cancel]
      have fr : ∀ a k, a ≠ 47 + 9 * hm D → ¬ (a = 11 ∧ k = 3) → ¬ (264 ≤ a ∧ a ≤ 265 ∧ k = hm D) → ¬ (a = 235 ∧ k = 43) → a ≠ 129 + 2 * hm D → a ≠ 130 + 2 * hm D → u2 (u2 (u2 f1 264 (hm D) (n32 b)) 265 (hm D) (n32 c)) 235 43 (n32 (hm D + 1)) a k = f a k := fun a k p1 p2 p3 p4 p5 p6 => by
        rw [u2_n (by omega), u2_n (by omega), u2_n (by omega), q0 _ _ (by omega), u2_n (by omega), u2_n (by omega), u2_n (by omega)]
      refine ok_some ⟨rfl, IV_mk (len := len) (Y := Y) (s := s) (dr := dr) (st := st) (le := le) (ha := ha) (sp := sp) (nl := nl) (rt := rt) (lw := lw) ⟨sTape_cg t (fun a k hk => fr a k (by omega) (by omega) (by omega) (by omega) (by omega) (by omega)), sPl_cg h2 (fun a k hk => fr a k (by omega) (by omega) (by omega) (by omega) (by omega) (by omega)), hall_buyer (t := b) (c := c) h3 hm6 g1 g3 (fun a k p1 p2 p3 p4 p5 => fr a k (by omega) (by omega) (by omega) (by omega) (by omega) (by omega)) ⟨?_, ?_, ?_, ?_⟩ ⟨?_, ?_, ?_, ?_⟩, sLor_cg h4 (fun a k hk => fr a k (by omega) (by omega) (by omega) (by omega) (by omega) (by omega)), sDay_cg h5 (fun a k hk => fr a k (by omega) (by omega) (by omega) (by omega) (by omega) (by omega)), ?_, sOut_D (D := D) (sOut_cg h3.1 h4.1 h7 (fun a k hk => fr a k (by omega) (by omega) (by omega) (by omega) (by omega) (by omega))) rfl rfl (fun b' hb' => ?_) (Nat.le_succ _), sTxt_cg h8 (fun a k hk => fr a k (by omega) (by omega) (by omega) (by omega) (by omega) (by omega))⟩⟩
      · exact fr _ _ (by omega) (by omega) (by omega) (by omega) (by omega) (by omega)
      · rw [u2_n (by omega), u2_n (by omega), u2_n (by omega), q0 _ _ (by omega)]
        simp (disch := omega) only [n32_of, neg_n32_1, n32_nat, n32_lt, n32_le, n32_eq, n32_add, n32_sub, n32_mul, n32_m1, m1_n32, n32_addm1, m1_lt, lt_m1, m1_le, le_m1, m1_add1, ofNat_n32, u2_self, u2_n, mk_I, mk_T, ]
      · exact fr _ _ (by omega) (by omega) (by omega) (by omega) (by omega) (by omega)
      · rw [u2_self]
      · rw [u2_n (by omega), u2_n (by omega), u2_n (by omega), q0 _ _ (by omega)]
        simp (disch := omega) only [n32_of, neg_n32_1, n32_nat, n32_lt, n32_le, n32_eq, n32_add, n32_sub, n32_mul, n32_m1, m1_n32, n32_addm1, m1_lt, lt_m1, m1_le, le_m1, m1_add1, ofNat_n32, u2_self, u2_n, mk_I, mk_T, ]
      · rw [u2_n (by omega), u2_n (by omega), u2_n (by omega), q0 _ _ (by omega)]
        simp (disch := omega) only [n32_of, neg_n32_1, n32_nat, n32_lt, n32_le, n32_eq, n32_add, n32_sub, n32_mul, n32_m1, m1_n32, n32_addm1, m1_lt, lt_m1, m1_le, le_m1, m1_add1, ofNat_n32, u2_self, u2_n, mk_I, mk_T, ]
      · rw [u2_n (by omega), u2_n (by omega), u2_self]
      · rw [u2_n (by omega), u2_self]
      · obtain ⟨a1, a2, a3, a4, a5⟩ := h6
        refine ⟨fun b' hb' => ?_, fun b' k hb' hk => (fr _ _ (by omega) (by omega) (by omega) (by omega) (by omega) (by omega)).trans (a2 b' k hb' hk), fun b' hb' => ⟨(fr _ _ (by omega) (by omega) (by omega) (by omega) (by omega) (by omega)).trans (a3 b' hb').1, (fr _ _ (by omega) (by omega) (by omega) (by omega) (by omega) (by omega)).trans (a3 b' hb').2⟩, fun b' hb' => a4 b' (Nat.le_of_succ_le hb'), a5⟩
        have hb2 : b' < hm D + 1 := hb'
        by_cases e : b' = hm D
        · subst e
          obtain ⟨z1, z2, z3⟩ := a4 (hm D) (Nat.le_refl _)
          have cz : cr (hn D, hm D + 1, lo D, la D, wn D, fu (cr D) (hm D) c, fu (tw D) (hm D) b) (hm D) = c := fu_at
          have k1 : ∀ k, u2 (u2 (u2 f1 264 (hm D) (n32 b)) 265 (hm D) (n32 c)) 235 43 (n32 (hm D + 1)) (129 + 2 * hm D) k = f1 (129 + 2 * hm D) k := fun k => by rw [u2_n (by omega), u2_n (by omega), u2_n (by omega)]
          have k2 : ∀ k, u2 (u2 (u2 f1 264 (hm D) (n32 b)) 265 (hm D) (n32 c)) 235 43 (n32 (hm D + 1)) (129 + 2 * hm D + 1) k = f1 (129 + 2 * hm D + 1) k := fun k => by rw [u2_n (by omega), u2_n (by omega), u2_n (by omega)]
          refine ⟨⟨fun k hk => by rw [z1]; omega, by rw [z2]; exact Nat.zero_le _⟩, ⟨?_, fun k hk => ?_⟩, ?_, ?_⟩
          · rw [k1, z2, cz]
            exact o0
          · rw [k2, z1]
            exact o5 k hk
          · rw [k1, sum6_0 z1]
            exact o1
          · rw [k1, z3]
            exact o2
        · obtain ⟨w1, ⟨w2, w3⟩, w4, w5⟩ := a1 b' (by omega)
          have cz : cr (hn D, hm D + 1, lo D, la D, wn D, fu (cr D) (hm D) c, fu (tw D) (hm D) b) b' = cr D b' := fu_ne e
          refine ⟨⟨w1.1, by rw [cz]; exact w1.2⟩, ⟨?_, fun k hk => (fr _ _ (by omega) (by omega) (by omega) (by omega) (by omega) (by omega)).trans (w3 k hk)⟩, (fr _ _ (by omega) (by omega) (by omega) (by omega) (by omega) (by omega)).trans w4, (fr _ _ (by omega) (by omega) (by omega) (by omega) (by omega) (by omega)).trans w5⟩
          rw [cz]
          exact (fr _ _ (by omega) (by omega) (by omega) (by omega) (by omega) (by omega)).trans w2
      · exact fu_ne (by omega)
    · with_reducible refine ok_ini (by first | assumption | omega | (simp (disch := omega) only [n32_of, neg_n32_1, n32_nat, n32_lt, n32_le, n32_eq, n32_add, n32_sub, n32_mul, n32_m1, m1_n32, n32_addm1, m1_lt, lt_m1, m1_le, le_m1, m1_add1, ofNat_n32, u2_self, u2_n, mk_I, mk_T, ne_eq, not_true_eq_false, not_false_eq_true, e3]; first | done | omega)) ?_
      refine ok_some ?_
      with_reducible refine ok_ipi (by first | assumption | omega | (simp (disch := omega) only [n32_of, neg_n32_1, n32_nat, n32_lt, n32_le, n32_eq, n32_add, n32_sub, n32_mul, n32_m1, m1_n32, n32_addm1, m1_lt, lt_m1, m1_le, le_m1, m1_add1, ofNat_n32, u2_self, u2_n, mk_I, mk_T, ne_eq, not_true_eq_false, not_false_eq_true, ]; first | done | omega)) ?_
      refine ok_some (hQ _ _ (fail ?_))
      unfold F_X12_buyer J_X12_buyer_29
      with_reducible refine ok_ipi (by first | assumption | omega | (simp (disch := omega) only [n32_of, neg_n32_1, n32_nat, n32_lt, n32_le, n32_eq, n32_add, n32_sub, n32_mul, n32_m1, m1_n32, n32_addm1, m1_lt, lt_m1, m1_le, le_m1, m1_add1, ofNat_n32, u2_self, u2_n, mk_I, mk_T, ne_eq, not_true_eq_false, not_false_eq_true, e43]; first | done | omega)) ?_
      exact ok_some ⟨rfl, rfl⟩
  · have rf : Ok (F_X12_buyer N x1 x2 (mk σ f)) (fun z σ2 => z = -1 ∧ σ2 = mk σ f) := by
      clear hI0 h2 h3 h4 h5 h6 h7 h8 t hQ
      unfold F_X12_buyer J_X12_buyer_29
      repeat' (with_reducible refine ok_ifi (fun _ => ?_) (fun _ => ?_))
      all_goals first
        | exact ok_some ⟨rfl, rfl⟩
        | (exfalso; simp (disch := omega) only [n32_of, neg_n32_1, ofNat_n32, Int32.lt_iff_toInt_lt, Int32.le_iff_toInt_le, i32_eq, n32_toInt, m1_toInt, ne_eq, Decidable.not_not] at *; first | done | omega)
    have g := hQ _ _ (fail rf)
    clear hI0 h2 h3 h4 h5 h6 h7 h8 t
    repeat' (with_reducible refine ok_ifi (fun _ => ?_) (fun _ => ?_))
    all_goals first
      | exact ok_some g
      | (exfalso; simp (disch := omega) only [n32_of, neg_n32_1, ofNat_n32, Int32.lt_iff_toInt_lt, Int32.le_iff_toInt_le, i32_eq, n32_toInt, m1_toInt, ne_eq, Decidable.not_not] at *; first | done | omega)
end OPS3
