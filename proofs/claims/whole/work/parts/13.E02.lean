/-- two planes differ in some cells only -/
def eqS (S : Nat → Prop) (f f' : Nat → Nat → Int32) : Prop := ∀ a k, ¬ S a → f' a k = f a k
theorem eqS_rfl {S : Nat → Prop} {f : Nat → Nat → Int32} : eqS S f f := fun _ _ _ => rfl
theorem eqS_tr {S : Nat → Prop} {f g h : Nat → Nat → Int32} (h1 : eqS S f g) (h2 : eqS S g h) : eqS S f h := fun a k ha => (h2 a k ha).trans (h1 a k ha)
theorem eqS_mono {S S' : Nat → Prop} {f g : Nat → Nat → Int32} (h1 : eqS S f g) (h2 : ∀ a, S a → S' a) : eqS S' f g := fun a k ha => h1 a k (fun q => ha (h2 a q))
theorem eqx_S {S : Nat → Prop} {f g : Nat → Nat → Int32} {a : Nat} (h : eqx f g a) (ha : S a) : eqS S f g := fun b k hb => h b k (fun e => hb (e ▸ ha))
theorem eqS_u2 {S : Nat → Prop} {f g : Nat → Nat → Int32} {a k : Nat} {v : Int32} (h : eqS S f g) (ha : S a) : eqS S f (u2 g a k v) := fun b j hb => (u2_n (Or.inl (fun e => hb (by rw [e]; exact ha)))).trans (h b j hb)
abbrev scX (a : Nat) : Prop := a = 22 ∨ a = 8 ∨ a = 21 ∨ a = 55 ∨ a = 64 ∨ a = 73 ∨ a = 82 ∨ a = 91 ∨ a = 100
abbrev scR (a : Nat) : Prop := a = 274 ∨ a = 275
theorem tx_in {t : Nat} (h : isTx t) : t = 2 ∨ t = 15 ∨ t = 49 ∨ t = 58 ∨ t = 67 ∨ t = 76 ∨ t = 85 ∨ t = 94 := by
  simpa [isTx] using h
theorem HX_S {S : Nat → Prop} {f f' : Nat → Nat → Int32} {D : HD} (h : HX f D) (hD : HOK D) (e : eqS S f f') (s1 : ¬ S 11) (s2 : ¬ S 14) (s3 : ∀ i, i < 24 → ¬ S (23 + i)) (s4 : ∀ b, b < 6 → ¬ S (47 + 9 * b) ∧ ¬ S (47 + 9 * b + 1)) : HX f' D := by
  obtain ⟨h1, h2, h3, h4, h5, h6⟩ := h
  have n24 := hD.1
  have m6 := hD.2.1
  exact ⟨(e _ _ s1).trans h1, (e _ _ s1).trans h2, fun j i hj hi => (e _ _ (s3 i (by omega))).trans (h3 j i hj hi), fun k hk => (e _ _ s2).trans (h4 k hk), fun b hb => ⟨(e _ _ (s4 b (by omega)).1).trans (h5 b hb).1, (e _ _ (s4 b (by omega)).1).trans (h5 b hb).2⟩, fun b k hb hk => (e _ _ (s4 b hb).2).trans (h6 b k hb hk)⟩
theorem HR_S {S : Nat → Prop} {f f' : Nat → Nat → Int32} {D : HD} (h : HR f D) (e : eqS S f f') (s1 : ¬ S 235) (s2 : ∀ a, 259 ≤ a → a ≤ 267 → ¬ S a) : HR f' D := by
  obtain ⟨h1, h2, h3, h4, h5, h6⟩ := h
  exact ⟨(e _ _ s1).trans h1, (e _ _ s1).trans h2, fun j i hj hi => (e _ _ (s2 _ (by omega) (by omega))).trans (h3 j i hj hi), fun k hk => (e _ _ (s2 _ (by omega) (by omega))).trans (h4 k hk), fun b hb => ⟨(e _ _ (s2 _ (by omega) (by omega))).trans (h5 b hb).1, (e _ _ (s2 _ (by omega) (by omega))).trans (h5 b hb).2⟩, fun b k hb hk => (e _ _ (s2 _ (by omega) (by omega))).trans (h6 b k hb hk)⟩
theorem XT_S {S : Nat → Prop} {f f' : Nat → Nat → Int32} {t : Nat} {rs : List Ru} (h : XT f t rs) (e : eqS S f f') (hS : ∀ j, j ≤ 5 → ¬ S (t + j)) : XT f' t rs := XT_cg h (fun k => e _ k (hS 0 (by omega))) (fun k => e _ k (hS 1 (by omega))) (fun k => e _ k (hS 2 (by omega))) (fun k => e _ k (hS 3 (by omega))) (fun k => e _ k (hS 4 (by omega))) (fun k => e _ k (hS 5 (by omega)))
theorem RT_S {S : Nat → Prop} {f f' : Nat → Nat → Int32} {pg : Nat} {rs : List Ru} (h : RT f pg rs) (e : eqS S f f') (hS : ∀ a, 244 ≤ a → a ≤ 257 → ¬ S a) : RT f' pg rs := by
  have e' : ∀ a k, 244 ≤ a → a ≤ 257 → f' a k = f a k := fun a k h1 h2 => e a k (hS a h1 h2)
  obtain ⟨h1, h2⟩ := h
  refine ⟨(e' _ _ (by omega) (by omega)).trans h1, fun r u hu => ?_⟩
  obtain ⟨p, b, g1, g2, g3, g4, g5, g6, g7, g8, g9⟩ := h2 r u hu
  refine ⟨p, b, (e' _ _ (by omega) (by omega)).trans g1, (e' _ _ (by omega) (by omega)).trans g2, (e' _ _ (by omega) (by omega)).trans g3, segR_cg g4 (fun k => e' _ k (by omega) (by omega)) (fun k => e' _ k (by omega) (by omega)), g5, (e' _ _ (by omega) (by omega)).trans g6, (e' _ _ (by omega) (by omega)).trans g7, g8, fun k q hq => ?_⟩
  obtain ⟨p, h1, h2, h3, h4, h5, h6, h7, h8⟩ := g9 k q hq
  exact ⟨p, (e' _ _ (by omega) (by omega)).trans h1, (e' _ _ (by omega) (by omega)).trans h2, (e' _ _ (by omega) (by omega)).trans h3, (e' _ _ (by omega) (by omega)).trans h4, (e' _ _ (by omega) (by omega)).trans h5, segR_cg h6 (fun k => e' _ k (by omega) (by omega)) (fun k => e' _ k (by omega) (by omega)), segR_cg h7 (fun k => e' _ k (by omega) (by omega)) (fun k => e' _ k (by omega) (by omega)), h8⟩
theorem tx_sc {t : Nat} (h : isTx t) : ∀ j, j ≤ 5 → ¬ scX (t + j) := by
  intro j hj
  have := tx_in h
  omega
theorem tx_6 {t : Nat} (h : isTx t) : scX (t + 6) ∧ t + 6 ≠ 22 := by
  have := tx_in h
  omega
theorem HX_sc {f f' : Nat → Nat → Int32} {D : HD} (h : HX f D) (hD : HOK D) (e : eqS scX f f') : HX f' D := HX_S h hD e (by omega) (by omega) (fun i hi => by omega) (fun b hb => by omega)
theorem HR_sc {f f' : Nat → Nat → Int32} {D : HD} (h : HR f D) (e : eqS scR f f') : HR f' D := HR_S h e (by omega) (fun a h1 h2 => by omega)
def mn (x y : Int32) : Int32 := if y < x then y else x
def mx (x y : Int32) : Int32 := if x < y then y else x
def held (x m : Int32) : Int32 := mx (n32 1) (mn x m)
def startP (D : HD) (rs : List Ru) (i : Nat) : Int32 := held (vof (lv D i) 1 (n32 100) rs) (n32 999)
def leastP (D : HD) (rs : List Ru) (i : Nat) (s : Int32) : Int32 := held (vof (lv D i) 2 (n32 1) rs) s
def limP (D : HD) (rs : List Ru) (ha : Nat → Nat → Nat) (sp : Nat → Nat) (b i : Nat) : Int32 := if wn D b (lo D 1 i) - ha b (lo D 1 i) < lo D 3 i then n32 0 else mn (vof (bv D ha sp b i) 0 (n32 0) rs) (n32 ((cr D b - sp b) / lo D 3 i))
theorem s_heldTo (N : Nat) (x m : Int32) (σ : aSt) : F_X2_heldTo N x m σ = some (held x m, σ) := by
  unfold F_X2_heldTo
  rw [s_min, oB_s, s_max, oB_s]
  rfl
theorem x_start {N i : Nat} {σ : aSt} {f : Nat → Nat → Int32} {D : HD} {rs : List Ru} (hN : 1000 ≤ N) (hD : HOK D) (hX : HX f D) (hi : i < hn D) (ht : isTx (aTxt σ 11 5)) (hT : XT f (aTxt σ 11 5) rs) (hok : okT rs) : Ok (F_X2_startOf N (n32 i) (mk σ f)) (fun y σ' => y = startP D rs i ∧ ∃ f', σ' = mk σ f' ∧ eqS scX f f') := by
  unfold F_X2_startOf
  refine ok_bind (x_setLot hD hX hi) (fun y σ1 hq => ?_)
  obtain ⟨f1, rfl, he, hv⟩ := hq
  have he1 : eqS scX f f1 := eqx_S he (by omega)
  have := x_voe (d := 100) (σ := σ) hN (tx_6 ht).2 hok (show 1 < 3 by omega) (XT_S hT he1 (tx_sc ht))
  refine ok_bind this (fun y σ2 hq => ?_)
  obtain ⟨rfl, f2, rfl, he2⟩ := hq
  rw [s_heldTo, oB_s, vof_cg hv]
  exact ok_some ⟨rfl, f2, rfl, eqS_tr he1 (eqx_S he2 (tx_6 ht).1)⟩
theorem x_least {N i : Nat} {s : Int32} {σ : aSt} {f : Nat → Nat → Int32} {D : HD} {rs : List Ru} (hN : 1000 ≤ N) (hD : HOK D) (hX : HX f D) (hi : i < hn D) (ht : isTx (aTxt σ 11 5)) (hT : XT f (aTxt σ 11 5) rs) (hok : okT rs) : Ok (F_X2_leastOf N (n32 i) s (mk σ f)) (fun y σ' => y = leastP D rs i s ∧ ∃ f', σ' = mk σ f' ∧ eqS scX f f') := by
  unfold F_X2_leastOf
  refine ok_bind (x_setLot hD hX hi) (fun y σ1 hq => ?_)
  obtain ⟨f1, rfl, he, hv⟩ := hq
  have he1 : eqS scX f f1 := eqx_S he (by omega)
  have := x_voe (d := 1) (σ := σ) hN (tx_6 ht).2 hok (show 2 < 3 by omega) (XT_S hT he1 (tx_sc ht))
  refine ok_bind this (fun y σ2 hq => ?_)
  obtain ⟨rfl, f2, rfl, he2⟩ := hq
  rw [s_heldTo, oB_s, vof_cg hv]
  exact ok_some ⟨rfl, f2, rfl, eqS_tr he1 (eqx_S he2 (tx_6 ht).1)⟩
/-- a purse as it stands -/
def PX (f : Nat → Nat → Int32) (P : Nat) (D : HD) (ha : Nat → Nat → Nat) (sp : Nat → Nat) (b : Nat) : Prop := f P 0 = n32 (cr D b - sp b) ∧ ∀ k, k < 6 → f (P + 1) k = n32 (ha b k)
def PB (D : HD) (ha : Nat → Nat → Nat) (sp : Nat → Nat) (b : Nat) : Prop := (∀ k, k < 6 → ha b k ≤ 1000) ∧ sp b ≤ cr D b
theorem PX_S {S : Nat → Prop} {f f' : Nat → Nat → Int32} {P b : Nat} {D : HD} {ha : Nat → Nat → Nat} {sp : Nat → Nat} (h : PX f P D ha sp b) (e : eqS S f f') (h1 : ¬ S P) (h2 : ¬ S (P + 1)) : PX f' P D ha sp b := ⟨(e _ _ h1).trans h.1, fun k hk => (e _ _ h2).trans (h.2 k hk)⟩
theorem x_setBuyer {N b i P : Nat} {σ : aSt} {f : Nat → Nat → Int32} {D : HD} {ha : Nat → Nat → Nat} {sp : Nat → Nat} (hD : HOK D) (hX : HX f D) (hi : i < hn D) (hb : b < hm D) (hP : PX f P D ha sp b) (hPB : PB D ha sp b) (hp : P ≠ 22 ∧ P + 1 ≠ 22) : Ok (F_X2_setBuyerVariables N (n32 b) (n32 i) P (mk σ f)) (fun _ σ' => ∃ f', σ' = mk σ f' ∧ eqx f f' 22 ∧ ∀ k, k < 10 → f' 22 k = bv D ha sp b i k) := by
  unfold F_X2_setBuyerVariables
  refine ok_bind (x_setLot hD hX hi) (fun y σ1 hq => ?_)
  obtain ⟨f1, rfl, he, hv⟩ := hq
  have n24 := hD.1
  have m6 := hD.2.1
  have di := hD.2.2.1 i hi
  have e1 := (he (23 + i) 1 (by omega)).trans (hX.2.2.1 1 i (by omega) hi)
  have q1 := (he (P + 1) (lo D 1 i) hp.2).trans (hP.2 (lo D 1 i) (by omega))
  have q0 := (he P 0 hp.1).trans hP.1
  repeat (first | with_reducible refine ok_W ?_ | with_reducible refine ok_cO (by first | assumption | omega | (simp (disch := omega) only [n32_of, neg_n32_1, n32_nat, n32_lt, n32_le, n32_eq, n32_add, n32_sub, n32_mul, n32_m1, m1_n32, n32_addm1, m1_lt, lt_m1, m1_le, le_m1, m1_add1, ofNat_n32, u2_self, u2_n, mk_I, mk_T, ne_eq, not_true_eq_false, not_false_eq_true, e1]; first | done | omega)) ?_ | with_reducible refine ok_ip (by first | assumption | omega | (simp (disch := omega) only [n32_of, neg_n32_1, n32_nat, n32_lt, n32_le, n32_eq, n32_add, n32_sub, n32_mul, n32_m1, m1_n32, n32_addm1, m1_lt, lt_m1, m1_le, le_m1, m1_add1, ofNat_n32, u2_self, u2_n, mk_I, mk_T, ne_eq, not_true_eq_false, not_false_eq_true, e1]; first | done | omega)) ?_ | with_reducible refine ok_in (by first | assumption | omega | (simp (disch := omega) only [n32_of, neg_n32_1, n32_nat, n32_lt, n32_le, n32_eq, n32_add, n32_sub, n32_mul, n32_m1, m1_n32, n32_addm1, m1_lt, lt_m1, m1_le, le_m1, m1_add1, ofNat_n32, u2_self, u2_n, mk_I, mk_T, ne_eq, not_true_eq_false, not_false_eq_true, e1]; first | done | omega)) ?_)
  simp (disch := omega) only [n32_of, neg_n32_1, n32_nat, n32_lt, n32_le, n32_eq, n32_add, n32_sub, n32_mul, n32_m1, m1_n32, n32_addm1, m1_lt, lt_m1, m1_le, le_m1, m1_add1, ofNat_n32, u2_self, u2_n, mk_I, mk_T, e1, q1]
  have hX1 : HX (u2 f1 22 6 (n32 (ha b (lo D 1 i)))) D := HX_sc hX hD (eqS_u2 (eqx_S he (by omega)) (by omega))
  rw [x_stillWanted (ha := ha) hD hX1 (by omega) (by omega) (by simp (disch := omega) only [n32_of, neg_n32_1, n32_nat, n32_lt, n32_le, n32_eq, n32_add, n32_sub, n32_mul, n32_m1, m1_n32, n32_addm1, m1_lt, lt_m1, m1_le, le_m1, m1_add1, ofNat_n32, u2_self, u2_n, mk_I, mk_T, ]; exact q1) (hPB.1 _ (by omega)), oB_s]
  repeat (first | with_reducible refine ok_W ?_ | with_reducible refine ok_cO (by first | assumption | omega | (simp (disch := omega) only [n32_of, neg_n32_1, n32_nat, n32_lt, n32_le, n32_eq, n32_add, n32_sub, n32_mul, n32_m1, m1_n32, n32_addm1, m1_lt, lt_m1, m1_le, le_m1, m1_add1, ofNat_n32, u2_self, u2_n, mk_I, mk_T, ne_eq, not_true_eq_false, not_false_eq_true, ]; first | done | omega)) ?_ | with_reducible refine ok_ip (by first | assumption | omega | (simp (disch := omega) only [n32_of, neg_n32_1, n32_nat, n32_lt, n32_le, n32_eq, n32_add, n32_sub, n32_mul, n32_m1, m1_n32, n32_addm1, m1_lt, lt_m1, m1_le, le_m1, m1_add1, ofNat_n32, u2_self, u2_n, mk_I, mk_T, ne_eq, not_true_eq_false, not_false_eq_true, ]; first | done | omega)) ?_ | with_reducible refine ok_in (by first | assumption | omega | (simp (disch := omega) only [n32_of, neg_n32_1, n32_nat, n32_lt, n32_le, n32_eq, n32_add, n32_sub, n32_mul, n32_m1, m1_n32, n32_addm1, m1_lt, lt_m1, m1_le, le_m1, m1_add1, ofNat_n32, u2_self, u2_n, mk_I, mk_T, ne_eq, not_true_eq_false, not_false_eq_true, ]; first | done | omega)) ?_)
  refine ok_some ⟨_, rfl, ?_, ?_⟩
  · intro a k hak
    simp (disch := omega) only [n32_of, neg_n32_1, n32_nat, n32_lt, n32_le, n32_eq, n32_add, n32_sub, n32_mul, n32_m1, m1_n32, n32_addm1, m1_lt, lt_m1, m1_le, le_m1, m1_add1, ofNat_n32, u2_self, u2_n, mk_I, mk_T, ]
    exact he a k hak
  · intro k hk
    have hvk := hv k hk
    unfold lv pv at hvk
    unfold bv pv
    rcases (show k = 0 ∨ k = 1 ∨ k = 2 ∨ k = 3 ∨ k = 4 ∨ k = 5 ∨ k = 6 ∨ k = 7 ∨ k = 8 ∨ k = 9 by omega) with rfl | rfl | rfl | rfl | rfl | rfl | rfl | rfl | rfl | rfl <;> simp (disch := omega) only [n32_of, neg_n32_1, n32_nat, n32_lt, n32_le, n32_eq, n32_add, n32_sub, n32_mul, n32_m1, m1_n32, n32_addm1, m1_lt, lt_m1, m1_le, le_m1, m1_add1, ofNat_n32, u2_self, u2_n, mk_I, e1, q1, q0, hvk] <;> rfl
theorem x_limit {N b i P : Nat} {σ : aSt} {f : Nat → Nat → Int32} {D : HD} {ha : Nat → Nat → Nat} {sp : Nat → Nat} {rs : List Ru} (hN : 1000 ≤ N) (hD : HOK D) (hX : HX f D) (hi : i < hn D) (hb : b < hm D) (hP : PX f P D ha sp b) (hPB : PB D ha sp b) (hp : ¬ scX P ∧ ¬ scX (P + 1)) (ht : isTx (aTxt σ (47 + 9 * b) 3)) (hT : XT f (aTxt σ (47 + 9 * b) 3) rs) (hok : okT rs) : Ok (F_X2_limitOf N (n32 b) (n32 i) P (mk σ f)) (fun y σ' => y = limP D rs ha sp b i ∧ ∃ f', σ' = mk σ f' ∧ eqS scX f f') := by
  have n24 := hD.1
  have m6 := hD.2.1
  have di := hD.2.2.1 i hi
  have db := hD.2.2.2.1 b hb
  have dw := hD.2.2.2.2 b (lo D 1 i) (by omega) (by omega)
  have hpb1 := hPB.1 (lo D 1 i) (by omega)
  have hpb2 := hPB.2
  have e3 := hX.2.2.1 3 i (by omega) hi
  unfold F_X2_limitOf J_X2_limitOf_36
  with_reducible refine ok_cO (by first | assumption | omega | (simp (disch := omega) only [n32_of, neg_n32_1, n32_nat, n32_lt, n32_le, n32_eq, n32_add, n32_sub, n32_mul, n32_m1, m1_n32, n32_addm1, m1_lt, lt_m1, m1_le, le_m1, m1_add1, ofNat_n32, u2_self, u2_n, mk_I, mk_T, ne_eq, not_true_eq_false, not_false_eq_true, ]; first | done | omega)) ?_
  refine ok_bind (x_setBuyer hD hX hi hb hP hPB (by omega)) (fun y σ1 hq => ?_)
  obtain ⟨f1, rfl, he, hv⟩ := hq
  have he1 : eqS scX f f1 := eqx_S he (by omega)
  have w7 : f1 22 7 = n32 (wn D b (lo D 1 i) - ha b (lo D 1 i)) := hv 7 (by omega)
  with_reducible refine ok_in (by first | assumption | omega | (simp (disch := omega) only [n32_of, neg_n32_1, n32_nat, n32_lt, n32_le, n32_eq, n32_add, n32_sub, n32_mul, n32_m1, m1_n32, n32_addm1, m1_lt, lt_m1, m1_le, le_m1, m1_add1, ofNat_n32, u2_self, u2_n, mk_I, mk_T, ne_eq, not_true_eq_false, not_false_eq_true, e3]; first | done | omega)) ?_
  unfold limP
  by_cases hw : wn D b (lo D 1 i) - ha b (lo D 1 i) < lo D 3 i
  · rw [if_pos hw]
    with_reducible refine ok_in (by first | assumption | omega | (simp (disch := omega) only [n32_of, neg_n32_1, n32_nat, n32_lt, n32_le, n32_eq, n32_add, n32_sub, n32_mul, n32_m1, m1_n32, n32_addm1, m1_lt, lt_m1, m1_le, le_m1, m1_add1, ofNat_n32, u2_self, u2_n, mk_I, mk_T, ne_eq, not_true_eq_false, not_false_eq_true, e3, w7]; first | done | omega)) ?_
    exact ok_some ⟨rfl, f1, rfl, he1⟩
  · rw [if_neg hw]
    with_reducible refine ok_ip (by first | assumption | omega | (simp (disch := omega) only [n32_of, neg_n32_1, n32_nat, n32_lt, n32_le, n32_eq, n32_add, n32_sub, n32_mul, n32_m1, m1_n32, n32_addm1, m1_lt, lt_m1, m1_le, le_m1, m1_add1, ofNat_n32, u2_self, u2_n, mk_I, mk_T, ne_eq, not_true_eq_false, not_false_eq_true, e3, w7]; first | done | omega)) ?_
    with_reducible refine ok_cO (by first | assumption | omega | (simp (disch := omega) only [n32_of, neg_n32_1, n32_nat, n32_lt, n32_le, n32_eq, n32_add, n32_sub, n32_mul, n32_m1, m1_n32, n32_addm1, m1_lt, lt_m1, m1_le, le_m1, m1_add1, ofNat_n32, u2_self, u2_n, mk_I, mk_T, ne_eq, not_true_eq_false, not_false_eq_true, ]; first | done | omega)) ?_
    simp (disch := omega) only [n32_of, neg_n32_1, n32_nat, n32_lt, n32_le, n32_eq, n32_add, n32_sub, n32_mul, n32_m1, m1_n32, n32_addm1, m1_lt, lt_m1, m1_le, le_m1, m1_add1, ofNat_n32, u2_self, u2_n, mk_I, mk_T, ]
    have := x_voe (d := 0) (σ := σ) hN (tx_6 ht).2 hok (show 0 < 3 by omega) (XT_S hT he1 (tx_sc ht))
    refine ok_bind this (fun y σ2 hq => ?_)
    obtain ⟨rfl, f2, rfl, he2⟩ := hq
    have he12 : eqS scX f f2 := eqS_tr he1 (eqx_S he2 (tx_6 ht).1)
    have q0 := (he12 P 0 hp.1).trans hP.1
    with_reducible refine ok_cO (by first | assumption | omega | (simp (disch := omega) only [n32_of, neg_n32_1, n32_nat, n32_lt, n32_le, n32_eq, n32_add, n32_sub, n32_mul, n32_m1, m1_n32, n32_addm1, m1_lt, lt_m1, m1_le, le_m1, m1_add1, ofNat_n32, u2_self, u2_n, mk_I, mk_T, ne_eq, not_true_eq_false, not_false_eq_true, e3]; first | done | omega)) ?_
    simp (disch := omega) only [n32_of, neg_n32_1, n32_nat, n32_lt, n32_le, n32_eq, n32_add, n32_sub, n32_mul, n32_m1, m1_n32, n32_addm1, m1_lt, lt_m1, m1_le, le_m1, m1_add1, ofNat_n32, u2_self, u2_n, mk_I, mk_T, e3, q0]
    rw [s_min, oB_s, vof_cg hv]
    refine ok_some ⟨?_, f2, rfl, he12⟩
    have ed : n32 (cr D b - sp b) / n32 (lo D 3 i) = n32 ((cr D b - sp b) / lo D 3 i) := n32_div (by omega) (by omega)
    rw [ed]
    rfl
