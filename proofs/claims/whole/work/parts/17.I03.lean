/-! ===== the sale of the day ===== -/
theorem cntb_stop {re : Nat → Option SR} {b n : Nat} (h : ∀ l, n ≤ l → re l = none) : ∀ {m : Nat}, n ≤ m → cntb re b m = cntb re b n := by
  intro m
  induction m with
  | zero => intro h1; rw [show n = 0 by omega]
  | succ m ih =>
    intro h1
    by_cases e : n = m + 1
    · rw [e]
    · rw [cntb, ih (by omega), h m (by omega)]
      rfl
theorem cntb_zero {re : Nat → Option SR} {b : Nat} (h : ∀ l, isB (re l) b = false) : ∀ m, cntb re b m = 0
  | 0 => rfl
  | m + 1 => by rw [cntb, cntb_zero h m, h m]; rfl
def eqL (f g : pln) : Prop := ∀ a k, ¬ (193 ≤ a ∧ a ≤ 221) → ¬ (223 ≤ a ∧ a ≤ 234 ∧ (k = 3 ∨ k = 5 ∨ a % 2 = 0)) → ¬ (105 ≤ a ∧ a < 129 ∧ k = 7) → g a k = f a k
section SALE
variable {N : Nat} {σ : aSt} {f : pln} {len : Nat} {D : HD} {Y : LY} {s : Bool} {dr : Nat → SR} {st le : Nat → Nat} {ha : Nat → Nat → Nat} {sp nl : Nat → Nat} {rt : Nat → List Ru} {lw : Nat → Nat}
theorem x_lorries {f1 : pln} (hN : 1000 ≤ N) (hD : HOK D) (hd : dOK D dr) (hX : HX f1 D) (h4 : sLor f1 Y) (hO : ∀ l, l < hn D → f1 (105 + l) 0 = oI (dr l).1 ∧ f1 (105 + l) 2 = n32 (dr l).2.2.1) : ∀ (n v : Nat) (g : pln), yq Y < n + v → v ≤ yq Y → eqL f1 g → (∀ l, l < hn D → g (105 + l) 7 = oI (on D Y dr v l)) → (∀ v', v' < v → ldX g D v' (slv D Y dr v')) → Ok (H_X11_sale_25 N n (n32 v) (mk σ g)) (fun y σ' => y = f1 101 3 ∧ ∃ g', σ' = mk σ g' ∧ eqL f1 g' ∧ (∀ l, l < hn D → g' (105 + l) 7 = oI (on D Y dr (yq Y) l)) ∧ ∀ v, v < yq Y → ldX g' D v (slv D Y dr v)) := by
  have n24 := hD.1
  have m6 := hD.2.1
  have q6 := h4.1.1
  intro n
  induction n with
  | zero => intro v g h1 h2; omega
  | succ n ih =>
    intro v g h1 h2 e h7 hl
    have e6 : g 0 6 = n32 (yq Y) := (e _ _ (by omega) (by omega) (by omega)).trans h4.2.1
    rw [H_X11_sale_25]
    by_cases hv : yq Y ≤ v
    · with_reducible refine ok_ipi (by first | assumption | omega | (simp (disch := omega) only [n32_of, neg_n32_1, n32_nat, n32_lt, n32_le, n32_eq, n32_add, n32_sub, n32_mul, n32_m1, m1_n32, n32_addm1, m1_lt, lt_m1, m1_le, le_m1, m1_add1, ofNat_n32, u2_self, u2_n, mk_I, mk_T, ne_eq, not_true_eq_false, not_false_eq_true, e6]; first | done | omega)) ?_
      rw [show v = yq Y by omega] at h7 hl
      refine ok_some ⟨?_, g, rfl, e, h7, hl⟩
      rw [mk_I]
      exact e _ _ (by omega) (by omega) (by omega)
    · with_reducible refine ok_ini (by first | assumption | omega | (simp (disch := omega) only [n32_of, neg_n32_1, n32_nat, n32_lt, n32_le, n32_eq, n32_add, n32_sub, n32_mul, n32_m1, m1_n32, n32_addm1, m1_lt, lt_m1, m1_le, le_m1, m1_add1, ofNat_n32, u2_self, u2_n, mk_I, mk_T, ne_eq, not_true_eq_false, not_false_eq_true, e6]; first | done | omega)) ?_
      with_reducible refine ok_cOi (by first | assumption | omega | (simp (disch := omega) only [n32_of, neg_n32_1, n32_nat, n32_lt, n32_le, n32_eq, n32_add, n32_sub, n32_mul, n32_m1, m1_n32, n32_addm1, m1_lt, lt_m1, m1_le, le_m1, m1_add1, ofNat_n32, u2_self, u2_n, mk_I, mk_T, ne_eq, not_true_eq_false, not_false_eq_true, ]; first | done | omega)) ?_
      rw [n32_nat (by omega)]
      have hF : FX g D Y dr v := by
        obtain ⟨⟨a1, a2, a3⟩, -⟩ := h4.2.2.2 v (by omega)
        refine ⟨HX_V hX hD (fun a k hk => e a k (by omega) (by omega) (by omega)), ⟨(e _ _ (by omega) (by omega) (by omega)).trans a1, (e _ _ (by omega) (by omega) (by omega)).trans a2, (e _ _ (by omega) (by omega) (by omega)).trans a3⟩, fun l hl => ⟨(e _ _ (by omega) (by omega) (by omega)).trans (hO l hl).1, (e _ _ (by omega) (by omega) (by omega)).trans (hO l hl).2, h7 l hl⟩⟩
      refine ok_oB (ok_mono (x_loadF hN hD hd h4.1 (by omega) hF) ?_)
      rintro _ _ ⟨g', rfl, q0, ql, qo⟩
      simp (disch := omega) only [n32_of, neg_n32_1, n32_nat, n32_lt, n32_le, n32_eq, n32_add, n32_sub, n32_mul, n32_m1, m1_n32, n32_addm1, m1_lt, lt_m1, m1_le, le_m1, m1_add1, ofNat_n32, u2_self, u2_n, mk_I, mk_T, ]
      refine ih (v + 1) g' (by omega) (by omega) (fun a k p1 p2 p3 => (q0 a k p1 (by omega) (by omega) p3).trans (e a k p1 p2 p3)) qo (fun v' hv' => ?_)
      by_cases c : v' = v
      · subst c
        exact ql
      · obtain ⟨b1, b2, b3⟩ := hl v' (by omega)
        exact ⟨(q0 _ _ (by omega) (by omega) (by omega) (by omega)).trans b1, (q0 _ _ (by omega) (by omega) (by omega) (by omega)).trans b2, rowL_cg b3 (fun k => q0 _ _ (by omega) (by omega) (by omega) (by omega))⟩
/-- what the program's sale leaves -/
def SaX (σ : aSt) (f g : pln) (D : HD) (Y : LY) (rt : Nat → List Ru) (G : SG) : Prop := g 0 8 = n32 1 ∧ (∀ a k, ¬ scX a → ¬ (101 ≤ a ∧ a < 147) → ¬ (193 ≤ a ∧ a ≤ 221) → ¬ (223 ≤ a ∧ a ≤ 234 ∧ (k = 3 ∨ k = 5 ∨ a % 2 = 0)) → ¬ (a = 0 ∧ k = 8) → g a k = f a k) ∧ (∀ b, b < hm D → PX g (129 + 2 * b) D (gha G) (gsp G) b ∧ g (129 + 2 * b) 1 = n32 (sum6 (gha G b)) ∧ g (129 + 2 * b) 2 = n32 (gnl G b)) ∧ (∀ l, l < hn D → g (105 + l) 0 = oI (drG G l).1 ∧ g (105 + l) 1 = n32 (drG G l).2.1 ∧ g (105 + l) 2 = n32 (drG G l).2.2.1 ∧ g (105 + l) 3 = n32 (drG G l).2.2.2 ∧ g (105 + l) 4 = n32 (sN D (rt 0) l) ∧ g (105 + l) 5 = n32 (eN D (rt 0) l) ∧ g (105 + l) 6 = n32 (brP D l (drG G l)) ∧ g (105 + l) 7 = oI (on D Y (drG G) (yq Y) l)) ∧ ∀ v, v < yq Y → ldX g D v (slv D Y (drG G) v)
theorem sale_x {f1 : pln} (hN : 100000 ≤ N) (h3 : sHall f D) (h4 : sLor f Y) (h5 : sDay f false) (h8 : sTxt σ f rt lw) (hH : sHall f1 D) (hT : sTxt σ f1 rt lw) : Ok (F_X11_sale N (mk σ f)) (fun y σ' => ∃ G' g, σ' = mk σ g ∧ y = pre (gsec G') ∧ ggo G' = hn D ∧ GI (mkK D rt none) G' ∧ gsec G' ≤ 24000 ∧ SaX σ f g D Y rt G' ∧ Ok (F_X12_goes N (oI none) (mk σ f1)) (fun y σ'' => y = pre (gsec G') ∧ ∃ fr', σ'' = mk σ fr' ∧ RS fr' (mkK D rt none) G' ∧ eqS scS f1 fr')) := by
  have n24 := h3.1.1
  have m6 := h3.1.2.1
  have e8 := h5.2.1
  unfold F_X11_sale
  with_reducible refine ok_ipi ?_ ?_
  · exact e8
  repeat (first | with_reducible refine ok_W ?_ | with_reducible refine ok_cOi (by first | assumption | omega | (simp (disch := omega) only [n32_of, neg_n32_1, n32_nat, n32_lt, n32_le, n32_eq, n32_add, n32_sub, n32_mul, n32_m1, m1_n32, n32_addm1, m1_lt, lt_m1, m1_le, le_m1, m1_add1, ofNat_n32, u2_self, u2_n, mk_I, mk_T, ne_eq, not_true_eq_false, not_false_eq_true, ]; first | done | omega)) ?_ | with_reducible refine ok_ipi (by first | assumption | omega | (simp (disch := omega) only [n32_of, neg_n32_1, n32_nat, n32_lt, n32_le, n32_eq, n32_add, n32_sub, n32_mul, n32_m1, m1_n32, n32_addm1, m1_lt, lt_m1, m1_le, le_m1, m1_add1, ofNat_n32, u2_self, u2_n, mk_I, mk_T, ne_eq, not_true_eq_false, not_false_eq_true, ]; first | done | omega)) ?_ | with_reducible refine ok_ini (by first | assumption | omega | (simp (disch := omega) only [n32_of, neg_n32_1, n32_nat, n32_lt, n32_le, n32_eq, n32_add, n32_sub, n32_mul, n32_m1, m1_n32, n32_addm1, m1_lt, lt_m1, m1_le, le_m1, m1_add1, ofNat_n32, u2_self, u2_n, mk_I, mk_T, ne_eq, not_true_eq_false, not_false_eq_true, ]; first | done | omega)) ?_)
  have h3' : sHall (u2 f 0 8 1) D := sHall_cg h3 (fun a k hk => u2_n (by omega))
  have h4' : sLor (u2 f 0 8 1) Y := sLor_cg h4 (fun a k hk => u2_n (by omega))
  have h8' : sTxt σ (u2 f 0 8 1) rt lw := sTxt_cg h8 (fun a k hk => u2_n (by omega))
  refine ok_oB (ok_mono (sale_two (sa := 101) (o := none) hN (Or.inl rfl) h3' h8' (fun b e => by cases e) hH hT) ?_)
  rintro _ _ ⟨G', f2, rfl, g1, g2, g3, g4, g5, g6⟩
  have hg := all_gone g2 g1
  have hdk := drG_ok g2 g1 g3.1
  have hX2 : HX f2 D := g4.1.1.1
  have h42 : sLor f2 Y := sLor_cg h4' (fun a k hk => g5 a k (by omega))
  have hO2 : ∀ l, l < hn D → (f2 (105 + l) 0 = oI (drG G' l).1 ∧ f2 (105 + l) 4 = n32 (sN D (rt 0) l) ∧ f2 (105 + l) 5 = n32 (eN D (rt 0) l) ∧ f2 (105 + l) 7 = m1) ∧ f2 (105 + l) 1 = n32 (drG G' l).2.1 ∧ f2 (105 + l) 2 = n32 (drG G' l).2.2.1 ∧ f2 (105 + l) 3 = n32 (drG G' l).2.2.2 ∧ f2 (105 + l) 6 = n32 (brP D l (drG G' l)) := by
    intro l hl
    have a := g4.1.2.2.2.2.2.1 l hl
    have b := g4.1.2.2.2.2.2.2 l _ (hg l hl)
    rw [hg l hl] at a
    exact ⟨a, b⟩
  refine ok_mono (x_lorries (dr := drG G') (by omega) h3.1 hdk hX2 h42 (fun l hl => ⟨(hO2 l hl).1.1, (hO2 l hl).2.2.1⟩) N 0 f2 (by have := h4.1.1; omega) (by omega) (fun _ _ _ _ _ => rfl) (fun l hl => (hO2 l hl).1.2.2.2) (fun v' hv' => absurd hv' (Nat.not_lt_zero _))) ?_
  rintro y _ ⟨rfl, g, rfl, ee, w7, wl⟩
  refine ⟨G', g, rfl, g4.2.2.2, g1, g2, g3.1, ⟨?_, fun a k p1 p2 p3 p4 p5 => ?_, fun b hb => ?_, fun l hl => ?_, wl⟩, g6⟩
  · rw [ee _ _ (by omega) (by omega) (by omega), g5 _ _ (by omega), u2_self]
    rfl
  · rw [ee a k p3 p4 (by omega), g5 _ _ (by omega), u2_n (by omega)]
  · obtain ⟨⟨a1, a2⟩, a3, a4⟩ := g4.1.2.2.2.2.1 b hb
    have hb' : b < hm D := hb
    exact ⟨⟨(ee _ _ (by omega) (by omega) (by omega)).trans a1, fun k hk => (ee _ _ (by omega) (by omega) (by omega)).trans (a2 k hk)⟩, (ee _ _ (by omega) (by omega) (by omega)).trans a3, (ee _ _ (by omega) (by omega) (by omega)).trans a4⟩
  · obtain ⟨⟨a0, a4, a5, a7⟩, a1, a2, a3, a6⟩ := hO2 l hl
    exact ⟨(ee _ _ (by omega) (by omega) (by omega)).trans a0, (ee _ _ (by omega) (by omega) (by omega)).trans a1, (ee _ _ (by omega) (by omega) (by omega)).trans a2, (ee _ _ (by omega) (by omega) (by omega)).trans a3, (ee _ _ (by omega) (by omega) (by omega)).trans a4, (ee _ _ (by omega) (by omega) (by omega)).trans a5, (ee _ _ (by omega) (by omega) (by omega)).trans a6, w7 l hl⟩
/-- what the reference keeps of a sale -/
def SaR (g0 g : pln) (D : HD) (rt : Nat → List Ru) (G : SG) : Prop := (∀ a k, ¬ (287 ≤ a ∧ a ≤ 293) → ¬ (271 ≤ a ∧ a ≤ 273) → g a k = g0 a k) ∧ (∀ l, l < hn D → g 287 l = oI (drG G l).1 ∧ g 288 l = n32 (drG G l).2.1 ∧ g 289 l = n32 (drG G l).2.2.1 ∧ g 290 l = n32 (drG G l).2.2.2 ∧ g 291 l = n32 (sN D (rt 0) l) ∧ g 292 l = n32 (eN D (rt 0) l) ∧ g 293 l = n32 (brP D l (drG G l))) ∧ (∀ b, b < 6 → g 273 b = n32 (cntb (gre G) b (hn D))) ∧ (∀ k, k < 36 → g 271 k = g0 276 k) ∧ ∀ b, b < 6 → g 272 b = g0 277 b
theorem r_keep {g0 : pln} {G : SG} {y : Int32} (hN : 1000 ≤ N) (hD : HOK D) (hd : dOK D (drG G)) (hg : ∀ l, l < hn D → gre G l = some (drG G l)) (h37 : g0 235 37 = n32 (hn D)) (h3 : ∀ l, l < hn D → g0 262 l = n32 (lo D 3 l)) (hs : ∀ l, l < hn D → g0 284 l = n32 (sN D (rt 0) l) ∧ g0 285 l = n32 (eN D (rt 0) l)) (hr : ∀ l, l < hn D → g0 280 l = oI (drG G l).1 ∧ g0 281 l = n32 (drG G l).2.1 ∧ g0 282 l = n32 (drG G l).2.2.1 ∧ g0 283 l = n32 (drG G l).2.2.2) (hz : ∀ b, b < 6 → g0 273 b = n32 0) : Ok (H_X12_sale_23 N N y 0 (mk σ g0)) (fun z σ' => z = y ∧ ∃ g, σ' = mk σ g ∧ SaR g0 g D rt G) := by
  have n24 := hD.1
  have m6 := hD.2.1
  have l3 : ∀ (n b : Nat) (g : pln), 6 < n + b → b ≤ 6 → (∀ a k, ¬ (287 ≤ a ∧ a ≤ 293) → ¬ (271 ≤ a ∧ a ≤ 273) → g a k = g0 a k) → (∀ l, l < hn D → g 287 l = oI (drG G l).1 ∧ g 288 l = n32 (drG G l).2.1 ∧ g 289 l = n32 (drG G l).2.2.1 ∧ g 290 l = n32 (drG G l).2.2.2 ∧ g 291 l = n32 (sN D (rt 0) l) ∧ g 292 l = n32 (eN D (rt 0) l) ∧ g 293 l = n32 (brP D l (drG G l))) → (∀ b, b < 6 → g 273 b = n32 (cntb (gre G) b (hn D))) → (∀ k, k < 36 → g 271 k = g0 276 k) → (∀ b', b' < b → g 272 b' = g0 277 b') → Ok (H_X12_sale_173 N n y (n32 b) (mk σ g)) (fun z σ' => z = y ∧ ∃ g, σ' = mk σ g ∧ SaR g0 g D rt G) := by
    intro n
    induction n with
    | zero => intro b g h1 h2; omega
    | succ n ih =>
      intro b g h1 h2 e z1 z2 z3 z4
      rw [H_X12_sale_173]
      by_cases hb : 6 ≤ b
      · with_reducible refine ok_ipi (by first | assumption | omega | (simp (disch := omega) only [n32_of, neg_n32_1, n32_nat, n32_lt, n32_le, n32_eq, n32_add, n32_sub, n32_mul, n32_m1, m1_n32, n32_addm1, m1_lt, lt_m1, m1_le, le_m1, m1_add1, ofNat_n32, u2_self, u2_n, mk_I, mk_T, ne_eq, not_true_eq_false, not_false_eq_true, ]; first | done | omega)) ?_
        exact ok_some ⟨rfl, g, rfl, e, z1, z2, z3, fun b' hb' => z4 b' (by omega)⟩
      · repeat (first | with_reducible refine ok_W ?_ | with_reducible refine ok_cOi (by first | assumption | omega | (simp (disch := omega) only [n32_of, neg_n32_1, n32_nat, n32_lt, n32_le, n32_eq, n32_add, n32_sub, n32_mul, n32_m1, m1_n32, n32_addm1, m1_lt, lt_m1, m1_le, le_m1, m1_add1, ofNat_n32, u2_self, u2_n, mk_I, mk_T, ne_eq, not_true_eq_false, not_false_eq_true, ]; first | done | omega)) ?_ | with_reducible refine ok_ipi (by first | assumption | omega | (simp (disch := omega) only [n32_of, neg_n32_1, n32_nat, n32_lt, n32_le, n32_eq, n32_add, n32_sub, n32_mul, n32_m1, m1_n32, n32_addm1, m1_lt, lt_m1, m1_le, le_m1, m1_add1, ofNat_n32, u2_self, u2_n, mk_I, mk_T, ne_eq, not_true_eq_false, not_false_eq_true, ]; first | done | omega)) ?_ | with_reducible refine ok_ini (by first | assumption | omega | (simp (disch := omega) only [n32_of, neg_n32_1, n32_nat, n32_lt, n32_le, n32_eq, n32_add, n32_sub, n32_mul, n32_m1, m1_n32, n32_addm1, m1_lt, lt_m1, m1_le, le_m1, m1_add1, ofNat_n32, u2_self, u2_n, mk_I, mk_T, ne_eq, not_true_eq_false, not_false_eq_true, ]; first | done | omega)) ?_)
        simp (disch := omega) only [n32_of, neg_n32_1, n32_nat, n32_lt, n32_le, n32_eq, n32_add, n32_sub, n32_mul, n32_m1, m1_n32, n32_addm1, m1_lt, lt_m1, m1_le, le_m1, m1_add1, ofNat_n32, u2_self, u2_n, mk_I, mk_T, ]
        refine ih (b + 1) _ (by omega) (by omega) (fun a k p1 p2 => (u2_n (by omega)).trans (e a k p1 p2)) (fun l hl => ?_) (fun b' hb' => (u2_n (by omega)).trans (z2 b' hb')) (fun k hk => (u2_n (by omega)).trans (z3 k hk)) (fun b' hb' => ?_)
        · have := z1 l hl
          rw [u2_n (by omega), u2_n (by omega), u2_n (by omega), u2_n (by omega), u2_n (by omega), u2_n (by omega), u2_n (by omega)]
          exact this
        · by_cases c : b' = b
          · subst c
            rw [u2_self]
            exact e _ _ (by omega) (by omega)
          · exact (u2_n (by omega)).trans (z4 b' (by omega))
  have l2 : ∀ (n k : Nat) (g : pln), 36 < n + k → k ≤ 36 → (∀ a k, ¬ (287 ≤ a ∧ a ≤ 293) → ¬ (271 ≤ a ∧ a ≤ 273) → g a k = g0 a k) → (∀ l, l < hn D → g 287 l = oI (drG G l).1 ∧ g 288 l = n32 (drG G l).2.1 ∧ g 289 l = n32 (drG G l).2.2.1 ∧ g 290 l = n32 (drG G l).2.2.2 ∧ g 291 l = n32 (sN D (rt 0) l) ∧ g 292 l = n32 (eN D (rt 0) l) ∧ g 293 l = n32 (brP D l (drG G l))) → (∀ b, b < 6 → g 273 b = n32 (cntb (gre G) b (hn D))) → (∀ k', k' < k → g 271 k' = g0 276 k') → Ok (H_X12_sale_147 N n y (n32 k) (mk σ g)) (fun z σ' => z = y ∧ ∃ g, σ' = mk σ g ∧ SaR g0 g D rt G) := by
    intro n
    induction n with
    | zero => intro b g h1 h2; omega
    | succ n ih =>
      intro k g h1 h2 e z1 z2 z3
      rw [H_X12_sale_147]
      by_cases hb : 36 ≤ k
      · with_reducible refine ok_ipi (by first | assumption | omega | (simp (disch := omega) only [n32_of, neg_n32_1, n32_nat, n32_lt, n32_le, n32_eq, n32_add, n32_sub, n32_mul, n32_m1, m1_n32, n32_addm1, m1_lt, lt_m1, m1_le, le_m1, m1_add1, ofNat_n32, u2_self, u2_n, mk_I, mk_T, ne_eq, not_true_eq_false, not_false_eq_true, ]; first | done | omega)) ?_
        exact l3 N 0 g (by omega) (by omega) e z1 z2 (fun k' hk' => z3 k' (by omega)) (fun b' hb' => absurd hb' (Nat.not_lt_zero _))
      · repeat (first | with_reducible refine ok_W ?_ | with_reducible refine ok_cOi (by first | assumption | omega | (simp (disch := omega) only [n32_of, neg_n32_1, n32_nat, n32_lt, n32_le, n32_eq, n32_add, n32_sub, n32_mul, n32_m1, m1_n32, n32_addm1, m1_lt, lt_m1, m1_le, le_m1, m1_add1, ofNat_n32, u2_self, u2_n, mk_I, mk_T, ne_eq, not_true_eq_false, not_false_eq_true, ]; first | done | omega)) ?_ | with_reducible refine ok_ipi (by first | assumption | omega | (simp (disch := omega) only [n32_of, neg_n32_1, n32_nat, n32_lt, n32_le, n32_eq, n32_add, n32_sub, n32_mul, n32_m1, m1_n32, n32_addm1, m1_lt, lt_m1, m1_le, le_m1, m1_add1, ofNat_n32, u2_self, u2_n, mk_I, mk_T, ne_eq, not_true_eq_false, not_false_eq_true, ]; first | done | omega)) ?_ | with_reducible refine ok_ini (by first | assumption | omega | (simp (disch := omega) only [n32_of, neg_n32_1, n32_nat, n32_lt, n32_le, n32_eq, n32_add, n32_sub, n32_mul, n32_m1, m1_n32, n32_addm1, m1_lt, lt_m1, m1_le, le_m1, m1_add1, ofNat_n32, u2_self, u2_n, mk_I, mk_T, ne_eq, not_true_eq_false, not_false_eq_true, ]; first | done | omega)) ?_)
        simp (disch := omega) only [n32_of, neg_n32_1, n32_nat, n32_lt, n32_le, n32_eq, n32_add, n32_sub, n32_mul, n32_m1, m1_n32, n32_addm1, m1_lt, lt_m1, m1_le, le_m1, m1_add1, ofNat_n32, u2_self, u2_n, mk_I, mk_T, ]
        refine ih (k + 1) _ (by omega) (by omega) (fun a k p1 p2 => (u2_n (by omega)).trans (e a k p1 p2)) (fun l hl => ?_) (fun b' hb' => (u2_n (by omega)).trans (z2 b' hb')) (fun k' hk' => ?_)
        · have := z1 l hl
          rw [u2_n (by omega), u2_n (by omega), u2_n (by omega), u2_n (by omega), u2_n (by omega), u2_n (by omega), u2_n (by omega)]
          exact this
        · by_cases c : k' = k
          · subst c
            rw [u2_self]
            exact e _ _ (by omega) (by omega)
          · exact (u2_n (by omega)).trans (z3 k' (by omega))
  have l1 : ∀ (n l : Nat) (g : pln), hn D < n + l → l ≤ hn D → (∀ a k, ¬ (287 ≤ a ∧ a ≤ 293) → a ≠ 273 → g a k = g0 a k) → (∀ l', l' < l → g 287 l' = oI (drG G l').1 ∧ g 288 l' = n32 (drG G l').2.1 ∧ g 289 l' = n32 (drG G l').2.2.1 ∧ g 290 l' = n32 (drG G l').2.2.2 ∧ g 291 l' = n32 (sN D (rt 0) l') ∧ g 292 l' = n32 (eN D (rt 0) l') ∧ g 293 l' = n32 (brP D l' (drG G l'))) → (∀ b, b < 6 → g 273 b = n32 (cntb (gre G) b l)) → Ok (H_X12_sale_23 N n y (n32 l) (mk σ g)) (fun z σ' => z = y ∧ ∃ g, σ' = mk σ g ∧ SaR g0 g D rt G) := by
    intro n
    induction n with
    | zero => intro b g h1 h2; omega
    | succ n ih =>
      intro l g h1 h2 e z1 z2
      have e37 : g 235 37 = n32 (hn D) := (e _ _ (by omega) (by omega)).trans h37
      rw [H_X12_sale_23]
      by_cases hl : hn D ≤ l
      · with_reducible refine ok_ipi (by first | assumption | omega | (simp (disch := omega) only [n32_of, neg_n32_1, n32_nat, n32_lt, n32_le, n32_eq, n32_add, n32_sub, n32_mul, n32_m1, m1_n32, n32_addm1, m1_lt, lt_m1, m1_le, le_m1, m1_add1, ofNat_n32, u2_self, u2_n, mk_I, mk_T, ne_eq, not_true_eq_false, not_false_eq_true, e37]; first | done | omega)) ?_
        rw [show l = hn D by omega] at z1 z2
        exact l2 N 0 g (by omega) (by omega) (fun a k p1 p2 => e a k p1 (by omega)) z1 z2 (fun k' hk' => absurd hk' (Nat.not_lt_zero _))
      · with_reducible refine ok_ini (by first | assumption | omega | (simp (disch := omega) only [n32_of, neg_n32_1, n32_nat, n32_lt, n32_le, n32_eq, n32_add, n32_sub, n32_mul, n32_m1, m1_n32, n32_addm1, m1_lt, lt_m1, m1_le, le_m1, m1_add1, ofNat_n32, u2_self, u2_n, mk_I, mk_T, ne_eq, not_true_eq_false, not_false_eq_true, e37]; first | done | omega)) ?_
        have hl' : l < hn D := by omega
        obtain ⟨r0, r1, r2, r3⟩ := hr l hl'
        have s0 : g 280 l = oI (drG G l).1 := (e _ _ (by omega) (by omega)).trans r0
        have s1 : g 281 l = n32 (drG G l).2.1 := (e _ _ (by omega) (by omega)).trans r1
        have s2 : g 282 l = n32 (drG G l).2.2.1 := (e _ _ (by omega) (by omega)).trans r2
        have s3 : g 283 l = n32 (drG G l).2.2.2 := (e _ _ (by omega) (by omega)).trans r3
        have s4 : g 284 l = n32 (sN D (rt 0) l) := (e _ _ (by omega) (by omega)).trans (hs l hl').1
        have s5 : g 285 l = n32 (eN D (rt 0) l) := (e _ _ (by omega) (by omega)).trans (hs l hl').2
        have s6 : g 262 l = n32 (lo D 3 l) := (e _ _ (by omega) (by omega)).trans (h3 l hl')
        obtain ⟨d1, d2, d3, -, -⟩ := hd l hl'
        have hcn : ∀ b, cntb (gre G) b (l + 1) = cntb (gre G) b l + (isB (some (drG G l)) b).toNat := fun b => by rw [cntb, hg l hl']
        repeat (first | with_reducible refine ok_W ?_ | with_reducible refine ok_cOi (by first | assumption | omega | (simp (disch := omega) only [n32_of, neg_n32_1, n32_nat, n32_lt, n32_le, n32_eq, n32_add, n32_sub, n32_mul, n32_m1, m1_n32, n32_addm1, m1_lt, lt_m1, m1_le, le_m1, m1_add1, ofNat_n32, u2_self, u2_n, mk_I, mk_T, ne_eq, not_true_eq_false, not_false_eq_true, ]; first | done | omega)) ?_ | with_reducible refine ok_ipi (by first | assumption | omega | (simp (disch := omega) only [n32_of, neg_n32_1, n32_nat, n32_lt, n32_le, n32_eq, n32_add, n32_sub, n32_mul, n32_m1, m1_n32, n32_addm1, m1_lt, lt_m1, m1_le, le_m1, m1_add1, ofNat_n32, u2_self, u2_n, mk_I, mk_T, ne_eq, not_true_eq_false, not_false_eq_true, ]; first | done | omega)) ?_ | with_reducible refine ok_ini (by first | assumption | omega | (simp (disch := omega) only [n32_of, neg_n32_1, n32_nat, n32_lt, n32_le, n32_eq, n32_add, n32_sub, n32_mul, n32_m1, m1_n32, n32_addm1, m1_lt, lt_m1, m1_le, le_m1, m1_add1, ofNat_n32, u2_self, u2_n, mk_I, mk_T, ne_eq, not_true_eq_false, not_false_eq_true, ]; first | done | omega)) ?_)
        refine ok_oB (ok_eq (r_brings (D := D) (r := drG G l) hD hl' ⟨d1, d2, d3⟩ (by simp (disch := omega) only [n32_of, neg_n32_1, n32_nat, n32_lt, n32_le, n32_eq, n32_add, n32_sub, n32_mul, n32_m1, m1_n32, n32_addm1, m1_lt, lt_m1, m1_le, le_m1, m1_add1, ofNat_n32, u2_self, u2_n, mk_I, mk_T, s0]) (by simp (disch := omega) only [n32_of, neg_n32_1, n32_nat, n32_lt, n32_le, n32_eq, n32_add, n32_sub, n32_mul, n32_m1, m1_n32, n32_addm1, m1_lt, lt_m1, m1_le, le_m1, m1_add1, ofNat_n32, u2_self, u2_n, mk_I, mk_T, s1]) (by simp (disch := omega) only [n32_of, neg_n32_1, n32_nat, n32_lt, n32_le, n32_eq, n32_add, n32_sub, n32_mul, n32_m1, m1_n32, n32_addm1, m1_lt, lt_m1, m1_le, le_m1, m1_add1, ofNat_n32, u2_self, u2_n, mk_I, mk_T, s6])) (ok_some ?_))
        have gx : ∀ q : pln, q = u2 (u2 (u2 (u2 (u2 (u2 (u2 g 287 l (oI (drG G l).1)) 288 l (n32 (drG G l).2.1)) 289 l (n32 (drG G l).2.2.1)) 290 l (n32 (drG G l).2.2.2)) 291 l (n32 (sN D (rt 0) l))) 292 l (n32 (eN D (rt 0) l))) 293 l (n32 (brP D l (drG G l))) → (∀ a k, ¬ (287 ≤ a ∧ a ≤ 293) → q a k = g a k) ∧ ∀ l', l' < l + 1 → q 287 l' = oI (drG G l').1 ∧ q 288 l' = n32 (drG G l').2.1 ∧ q 289 l' = n32 (drG G l').2.2.1 ∧ q 290 l' = n32 (drG G l').2.2.2 ∧ q 291 l' = n32 (sN D (rt 0) l') ∧ q 292 l' = n32 (eN D (rt 0) l') ∧ q 293 l' = n32 (brP D l' (drG G l')) := by
          intro q hq
          subst hq
          refine ⟨fun a k p => ?_, fun l' hl2 => ?_⟩
          · rw [u2_n (by omega), u2_n (by omega), u2_n (by omega), u2_n (by omega), u2_n (by omega), u2_n (by omega), u2_n (by omega)]
          · by_cases c : l' = l
            · subst c
              refine ⟨?_, ?_, ?_, ?_, ?_, ?_, ?_⟩ <;> simp (disch := omega) only [n32_of, neg_n32_1, n32_nat, n32_lt, n32_le, n32_eq, n32_add, n32_sub, n32_mul, n32_m1, m1_n32, n32_addm1, m1_lt, lt_m1, m1_le, le_m1, m1_add1, ofNat_n32, u2_self, u2_n, mk_I, mk_T, ]
            · have := z1 l' (by omega)
              refine ⟨?_, ?_, ?_, ?_, ?_, ?_, ?_⟩
              all_goals
                rw [u2_n (by omega), u2_n (by omega), u2_n (by omega), u2_n (by omega), u2_n (by omega), u2_n (by omega), u2_n (by omega)]
              · exact this.1
              · exact this.2.1
              · exact this.2.2.1
              · exact this.2.2.2.1
              · exact this.2.2.2.2.1
              · exact this.2.2.2.2.2.1
              · exact this.2.2.2.2.2.2
        with_reducible refine ok_cOi (by first | assumption | omega | (simp (disch := omega) only [n32_of, neg_n32_1, n32_nat, n32_lt, n32_le, n32_eq, n32_add, n32_sub, n32_mul, n32_m1, m1_n32, n32_addm1, m1_lt, lt_m1, m1_le, le_m1, m1_add1, ofNat_n32, u2_self, u2_n, mk_I, mk_T, ne_eq, not_true_eq_false, not_false_eq_true, ]; first | done | omega)) ?_
        refine ok_W ?_
        simp (disch := omega) only [n32_of, neg_n32_1, n32_nat, n32_lt, n32_le, n32_eq, n32_add, n32_sub, n32_mul, n32_m1, m1_n32, n32_addm1, m1_lt, lt_m1, m1_le, le_m1, m1_add1, ofNat_n32, u2_self, u2_n, mk_I, mk_T, s0, s1, s2, s3, s4, s5]
        generalize u2 (u2 (u2 (u2 (u2 (u2 (u2 g 287 l (oI (drG G l).1)) 288 l (n32 (drG G l).2.1)) 289 l (n32 (drG G l).2.2.1)) 290 l (n32 (drG G l).2.2.2)) 291 l (n32 (sN D (rt 0) l))) 292 l (n32 (eN D (rt 0) l))) 293 l (n32 (brP D l (drG G l))) = q at gx ⊢
        obtain ⟨k1, k2⟩ := gx q rfl
        have q0 : q 280 l = oI (drG G l).1 := (k1 _ _ (by omega)).trans s0
        unfold J_X12_sale_139
        refine ok_cOi (by first | assumption | omega | (simp (disch := omega) only [n32_of, neg_n32_1, n32_nat, n32_lt, n32_le, n32_eq, n32_add, n32_sub, n32_mul, n32_m1, m1_n32, n32_addm1, m1_lt, lt_m1, m1_le, le_m1, m1_add1, ofNat_n32, u2_self, u2_n, mk_I, mk_T, ne_eq, not_true_eq_false, not_false_eq_true, ]; first | done | omega)) ?_
        cases hb : (drG G l).1 with
        | none =>
          rw [hb] at q0
          have hz2 : ∀ b, (isB (some (drG G l)) b).toNat = 0 := fun b => by
            have : isB (some (drG G l)) b = false := by
              cases er : drG G l with
              | mk a c =>
                rw [er] at hb
                have hb' : a = none := hb
                subst hb'
                rfl
            rw [this]
            rfl
          refine ok_ipi (by first | assumption | omega | (simp (disch := omega) only [n32_of, neg_n32_1, n32_nat, n32_lt, n32_le, n32_eq, n32_add, n32_sub, n32_mul, n32_m1, m1_n32, n32_addm1, m1_lt, lt_m1, m1_le, le_m1, m1_add1, ofNat_n32, u2_self, u2_n, mk_I, mk_T, ne_eq, not_true_eq_false, not_false_eq_true, q0, oI_n]; first | done | omega)) ?_
          simp (disch := omega) only [n32_of, neg_n32_1, n32_nat, n32_lt, n32_le, n32_eq, n32_add, n32_sub, n32_mul, n32_m1, m1_n32, n32_addm1, m1_lt, lt_m1, m1_le, le_m1, m1_add1, ofNat_n32, u2_self, u2_n, mk_I, mk_T, ]
          refine ih (l + 1) q (by omega) (by omega) (fun a k p1 p2 => (k1 a k p1).trans (e a k p1 p2)) k2 (fun b hb6 => ?_)
          rw [k1 _ _ (by omega), z2 b hb6, hcn, hz2, Nat.add_zero]
        | some b =>
          have hb6 := d1 b hb
          rw [hb] at q0
          have hB : ∀ b', (isB (some (drG G l)) b').toNat = if b' = b then 1 else 0 := fun b' => by
            have : isB (some (drG G l)) b' = (b == b') := by
              cases er : drG G l with
              | mk a c =>
                rw [er] at hb
                have hb' : a = some b := hb
                subst hb'
                rfl
            rw [this]
            by_cases c : b' = b
            · subst c
              rw [if_pos rfl, beq_self_eq_true]
              rfl
            · rw [if_neg c, beq_false_of_ne (fun e => c e.symm)]
              rfl
          have q273 : q 273 b = n32 (cntb (gre G) b l) := (k1 _ _ (by omega)).trans (z2 b (by omega))
          refine ok_ini (by first | assumption | omega | (simp (disch := omega) only [n32_of, neg_n32_1, n32_nat, n32_lt, n32_le, n32_eq, n32_add, n32_sub, n32_mul, n32_m1, m1_n32, n32_addm1, m1_lt, lt_m1, m1_le, le_m1, m1_add1, ofNat_n32, u2_self, u2_n, mk_I, mk_T, ne_eq, not_true_eq_false, not_false_eq_true, q0, oI_s]; first | done | omega)) ?_
          refine ok_cOi (by first | assumption | omega | (simp (disch := omega) only [n32_of, neg_n32_1, n32_nat, n32_lt, n32_le, n32_eq, n32_add, n32_sub, n32_mul, n32_m1, m1_n32, n32_addm1, m1_lt, lt_m1, m1_le, le_m1, m1_add1, ofNat_n32, u2_self, u2_n, mk_I, mk_T, ne_eq, not_true_eq_false, not_false_eq_true, ]; first | done | omega)) ?_
          refine ok_cOi (by first | assumption | omega | (simp (disch := omega) only [n32_of, neg_n32_1, n32_nat, n32_lt, n32_le, n32_eq, n32_add, n32_sub, n32_mul, n32_m1, m1_n32, n32_addm1, m1_lt, lt_m1, m1_le, le_m1, m1_add1, ofNat_n32, u2_self, u2_n, mk_I, mk_T, ne_eq, not_true_eq_false, not_false_eq_true, q0, oI_s]; first | done | omega)) ?_
          refine ok_cOi (by first | assumption | omega | (simp (disch := omega) only [n32_of, neg_n32_1, n32_nat, n32_lt, n32_le, n32_eq, n32_add, n32_sub, n32_mul, n32_m1, m1_n32, n32_addm1, m1_lt, lt_m1, m1_le, le_m1, m1_add1, ofNat_n32, u2_self, u2_n, mk_I, mk_T, ne_eq, not_true_eq_false, not_false_eq_true, q0, oI_s]; first | done | omega)) ?_
          refine ok_W ?_
          simp (disch := omega) only [n32_of, neg_n32_1, n32_nat, n32_lt, n32_le, n32_eq, n32_add, n32_sub, n32_mul, n32_m1, m1_n32, n32_addm1, m1_lt, lt_m1, m1_le, le_m1, m1_add1, ofNat_n32, u2_self, u2_n, mk_I, mk_T, q0, oI_s, q273]
          refine ih (l + 1) _ (by omega) (by omega) (fun a k p1 p2 => (u2_n (by omega)).trans ((k1 a k p1).trans (e a k p1 p2))) (fun l' hl2 => ?_) (fun b' hb'6 => ?_)
          · have := k2 l' hl2
            rw [u2_n (by omega), u2_n (by omega), u2_n (by omega), u2_n (by omega), u2_n (by omega), u2_n (by omega), u2_n (by omega)]
            exact this
          · rw [hcn, hB]
            by_cases c : b' = b
            · subst c
              rw [u2_self, if_pos rfl, z2 b' hb'6, n32_add]
            · rw [u2_n (by omega), if_neg c, k1 _ _ (by omega), z2 b' hb'6, Nat.add_zero]
  exact l1 N 0 g0 (by omega) (by omega) (fun _ _ _ _ => rfl) (fun l' hl' => absurd hl' (Nat.not_lt_zero _)) (fun b hb => hz b hb)
end SALE
