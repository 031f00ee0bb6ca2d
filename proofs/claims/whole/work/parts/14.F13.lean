def G0 : SG := (0, 0, 0, fun _ => none, fun _ => 0, fun _ _ => 0, fun _ => 0, fun _ => 0, fun _ => none, fun _ => false)
theorem cntb_0 (b : Nat) : ∀ L, cntb (fun _ => none) b L = 0
  | 0 => rfl
  | L + 1 => by rw [cntb, cntb_0 b L]; rfl
theorem G0_I {K : SP} : GI K G0 := by
  refine ⟨Nat.zero_le _, rfl, fun c l _ h => (by cases h), fun c c' l _ _ h => (by cases h), fun l h => absurd h (Nat.not_lt_zero l), fun l _ => rfl, ⟨fun b k => Nat.zero_le _, fun b _ => Nat.zero_le _, fun b _ => ⟨fun _ => rfl, rfl⟩⟩, fun b => (cntb_0 b 24).symm, fun l r h => by cases h⟩
/-- starts and leasts by the hall's text -/
def KH (K : SP) (rh : List Ru) : Prop := ∀ l, l < hn (kD K) → n32 (kS K l) = startP (kD K) rh l ∧ n32 (kL K l) = leastP (kD K) rh l (startP (kD K) rh l)
section RGO
variable {N : Nat} {σ : aSt} {K : SP} {x1 : Int32} {Q : Int32 → aSt → Prop}
theorem r_go64 {rh : List Ru} {l0 : Nat} {f0 : Nat → Nat → Int32} (hN : 10000 ≤ N) (hK : KOK K) (hKH : KH K rh) (hC : RC f0 K) (hl0 : l0 < 2) (hlv : f0 243 0 = n32 l0) (hT : RT f0 l0 rh) (hok : okT rh) (hz : (∀ k, k < 36 → f0 276 k = n32 0) ∧ (∀ b, b < 6 → f0 277 b = n32 0) ∧ ∀ c, c < 3 → f0 278 c = m1) (h : ∀ f', RS f' K G0 → eqS scS f0 f' → Ok (H_X12_goes_113 N N x1 (n32 0) (n32 0) m1 (mk σ f')) Q) : ∀ (n i : Nat) (f : Nat → Nat → Int32), hn (kD K) < n + i → i ≤ hn (kD K) → eqS (fun a => a = 274 ∨ a = 275 ∨ a = 284 ∨ a = 285) f0 f → (∀ l, l < i → f 284 l = n32 (kS K l) ∧ f 285 l = n32 (kL K l)) → Ok (H_X12_goes_64 N n x1 (n32 i) (mk σ f)) Q := by
  have n24 := hK.1.1
  intro n
  induction n with
  | zero => intro i f h1 h2; omega
  | succ n ih =>
    intro i f h1 h2 he hd
    have heS : eqS scS f0 f := eqS_mono he (fun a ha => by omega)
    have hCf := RC_S hC heS
    have e37 := hCf.1.1
    rw [H_X12_goes_64]
    by_cases hi : hn (kD K) ≤ i
    · with_reducible refine ok_ip (by first | assumption | omega | (simp (disch := omega) only [n32_of, neg_n32_1, n32_nat, n32_lt, n32_le, n32_eq, n32_add, n32_sub, n32_mul, n32_m1, m1_n32, n32_addm1, m1_lt, lt_m1, m1_le, le_m1, m1_add1, ofNat_n32, u2_self, u2_n, mk_I, mk_T, ne_eq, not_true_eq_false, not_false_eq_true, e37]; first | done | omega)) ?_
      have hz1 : ∀ b k, b < 6 → k < 6 → f 276 (6 * b + k) = n32 0 := fun b k hb hk => (he _ _ (by omega)).trans (hz.1 _ (by omega))
      exact h f ⟨hCf, ⟨fun b k hb hk => hz1 b k hb hk, fun b hb => (he _ _ (by omega)).trans (hz.2.1 b hb)⟩, fun c hc => (he _ _ (by omega)).trans (hz.2.2 c hc), fun c hc hne => absurd rfl hne, fun l hl => hd l (by omega), fun l r hr => by cases hr⟩ heS
    · with_reducible refine ok_in (by first | assumption | omega | (simp (disch := omega) only [n32_of, neg_n32_1, n32_nat, n32_lt, n32_le, n32_eq, n32_add, n32_sub, n32_mul, n32_m1, m1_n32, n32_addm1, m1_lt, lt_m1, m1_le, le_m1, m1_add1, ofNat_n32, u2_self, u2_n, mk_I, mk_T, ne_eq, not_true_eq_false, not_false_eq_true, e37]; first | done | omega)) ?_
      have hi' : i < hn (kD K) := by omega
      obtain ⟨k1, k2⟩ := hKH i hi'
      have hkb := hK.2 i hi'
      have hTf : RT f l0 rh := RT_S hT heS (fun a h1 h2 => by omega)
      have hlf := (he 243 0 (by omega)).trans hlv
      refine ok_bind (r_start hN hK.1 hCf.1 hi' hl0 hlf hTf hok) (fun y σ1 hq => ?_)
      obtain ⟨rfl, f1, rfl, he1⟩ := hq
      rw [← k1]
      with_reducible refine ok_cO (by first | assumption | omega | (simp (disch := omega) only [n32_of, neg_n32_1, n32_nat, n32_lt, n32_le, n32_eq, n32_add, n32_sub, n32_mul, n32_m1, m1_n32, n32_addm1, m1_lt, lt_m1, m1_le, le_m1, m1_add1, ofNat_n32, u2_self, u2_n, mk_I, mk_T, ne_eq, not_true_eq_false, not_false_eq_true, ]; first | done | omega)) ?_
      repeat (first | with_reducible refine ok_W ?_ | with_reducible refine ok_cO (by first | assumption | omega | (simp (disch := omega) only [n32_of, neg_n32_1, n32_nat, n32_lt, n32_le, n32_eq, n32_add, n32_sub, n32_mul, n32_m1, m1_n32, n32_addm1, m1_lt, lt_m1, m1_le, le_m1, m1_add1, ofNat_n32, u2_self, u2_n, mk_I, mk_T, ne_eq, not_true_eq_false, not_false_eq_true, ]; first | done | omega)) ?_ | with_reducible refine ok_ip (by first | assumption | omega | (simp (disch := omega) only [n32_of, neg_n32_1, n32_nat, n32_lt, n32_le, n32_eq, n32_add, n32_sub, n32_mul, n32_m1, m1_n32, n32_addm1, m1_lt, lt_m1, m1_le, le_m1, m1_add1, ofNat_n32, u2_self, u2_n, mk_I, mk_T, ne_eq, not_true_eq_false, not_false_eq_true, ]; first | done | omega)) ?_ | with_reducible refine ok_in (by first | assumption | omega | (simp (disch := omega) only [n32_of, neg_n32_1, n32_nat, n32_lt, n32_le, n32_eq, n32_add, n32_sub, n32_mul, n32_m1, m1_n32, n32_addm1, m1_lt, lt_m1, m1_le, le_m1, m1_add1, ofNat_n32, u2_self, u2_n, mk_I, mk_T, ne_eq, not_true_eq_false, not_false_eq_true, ]; first | done | omega)) ?_)
      have he2 : eqS scS f (u2 f1 284 i (n32 (kS K i))) := eqS_u2 (eqS_mono he1 (fun a ha => by omega)) (by omega)
      have hC2 := RC_S hCf he2
      simp (disch := omega) only [n32_of, neg_n32_1, n32_nat, n32_lt, n32_le, n32_eq, n32_add, n32_sub, n32_mul, n32_m1, m1_n32, n32_addm1, m1_lt, lt_m1, m1_le, le_m1, m1_add1, ofNat_n32, u2_self, u2_n, mk_I, mk_T, ]
      refine ok_bind (r_least (s := n32 (kS K i)) hN hK.1 hC2.1 hi' hl0 ((he2 243 0 (by omega)).trans hlf) (RT_S hTf he2 (fun a h1 h2 => by omega)) hok (by
        show n32 1 ≤ n32 (kS K i)
        first | assumption | omega | (simp (disch := omega) only [n32_of, neg_n32_1, n32_nat, n32_lt, n32_le, n32_eq, n32_add, n32_sub, n32_mul, n32_m1, m1_n32, n32_addm1, m1_lt, lt_m1, m1_le, le_m1, m1_add1, ofNat_n32, u2_self, u2_n, mk_I, mk_T, ne_eq, not_true_eq_false, not_false_eq_true, ]; first | done | omega))) (fun y σ2 hq => ?_)
      obtain ⟨rfl, f2, rfl, he3⟩ := hq
      rw [k1, ← k2]
      repeat (first | with_reducible refine ok_W ?_ | with_reducible refine ok_cO (by first | assumption | omega | (simp (disch := omega) only [n32_of, neg_n32_1, n32_nat, n32_lt, n32_le, n32_eq, n32_add, n32_sub, n32_mul, n32_m1, m1_n32, n32_addm1, m1_lt, lt_m1, m1_le, le_m1, m1_add1, ofNat_n32, u2_self, u2_n, mk_I, mk_T, ne_eq, not_true_eq_false, not_false_eq_true, ]; first | done | omega)) ?_ | with_reducible refine ok_ip (by first | assumption | omega | (simp (disch := omega) only [n32_of, neg_n32_1, n32_nat, n32_lt, n32_le, n32_eq, n32_add, n32_sub, n32_mul, n32_m1, m1_n32, n32_addm1, m1_lt, lt_m1, m1_le, le_m1, m1_add1, ofNat_n32, u2_self, u2_n, mk_I, mk_T, ne_eq, not_true_eq_false, not_false_eq_true, ]; first | done | omega)) ?_ | with_reducible refine ok_in (by first | assumption | omega | (simp (disch := omega) only [n32_of, neg_n32_1, n32_nat, n32_lt, n32_le, n32_eq, n32_add, n32_sub, n32_mul, n32_m1, m1_n32, n32_addm1, m1_lt, lt_m1, m1_le, le_m1, m1_add1, ofNat_n32, u2_self, u2_n, mk_I, mk_T, ne_eq, not_true_eq_false, not_false_eq_true, ]; first | done | omega)) ?_)
      refine ih (i + 1) _ (by omega) (by omega) (eqS_u2 ?_ (by omega)) (fun l hl => ?_)
      · intro a k ha
        rw [he3 a k (by omega), u2_n (by omega), he1 a k (by omega)]
        exact he a k ha
      · by_cases e : l = i
        · subst e
          rw [u2_n (by omega), u2_self, he3 _ _ (by omega), u2_self]
          exact ⟨rfl, rfl⟩
        · rw [u2_n (by omega), u2_n (by omega), he3 _ _ (by omega), he3 _ _ (by omega), u2_n (by omega), u2_n (by omega), he1 _ _ (by omega), he1 _ _ (by omega)]
          exact hd l (by omega)
theorem r_goes {rh : List Ru} {l0 : Nat} {f0 : Nat → Nat → Int32} (hN : 10000 ≤ N) (hK : KOK K) (hKH : KH K rh) (hC : RC f0 K) (hl0 : l0 < 2) (hlv : f0 243 0 = n32 l0) (hT : RT f0 l0 rh) (hok : okT rh) (h : ∀ f', RS f' K G0 → eqS scS f0 f' → Ok (H_X12_goes_113 N N x1 (n32 0) (n32 0) m1 (mk σ f')) Q) : Ok (F_X12_goes N x1 (mk σ f0)) Q := by
  have n24 := hK.1.1
  have l44 : ∀ (n c : Nat) (f : Nat → Nat → Int32), 3 < n + c → c ≤ 3 → eqS (fun a => a = 276 ∨ a = 277 ∨ a = 278) f0 f → (∀ k, k < 36 → f 276 k = n32 0) → (∀ b, b < 6 → f 277 b = n32 0) → (∀ c', c' < c → f 278 c' = m1) → Ok (H_X12_goes_44 N n x1 (n32 c) (mk σ f)) Q := by
    intro n
    induction n with
    | zero => intro c f h1 h2; omega
    | succ n ih =>
      intro c f h1 h2 he z1 z2 z3
      rw [H_X12_goes_44]
      by_cases hc : 3 ≤ c
      · with_reducible refine ok_ip (by first | assumption | omega | (simp (disch := omega) only [n32_of, neg_n32_1, n32_nat, n32_lt, n32_le, n32_eq, n32_add, n32_sub, n32_mul, n32_m1, m1_n32, n32_addm1, m1_lt, lt_m1, m1_le, le_m1, m1_add1, ofNat_n32, u2_self, u2_n, mk_I, mk_T, ne_eq, not_true_eq_false, not_false_eq_true, ]; first | done | omega)) ?_
        have heS : eqS scS f0 f := eqS_mono he (fun a ha => by omega)
        refine r_go64 hN hK hKH (RC_S hC heS) hl0 ((he _ _ (by omega)).trans hlv) (RT_S hT heS (fun a h1 h2 => by omega)) hok ⟨z1, z2, fun c' hc' => z3 c' (by omega)⟩ (fun f' hR he' => h f' hR (eqS_tr heS he')) N 0 f (by omega) (by omega) eqS_rfl (fun l hl => absurd hl (Nat.not_lt_zero l))
      · with_reducible refine ok_in (by first | assumption | omega | (simp (disch := omega) only [n32_of, neg_n32_1, n32_nat, n32_lt, n32_le, n32_eq, n32_add, n32_sub, n32_mul, n32_m1, m1_n32, n32_addm1, m1_lt, lt_m1, m1_le, le_m1, m1_add1, ofNat_n32, u2_self, u2_n, mk_I, mk_T, ne_eq, not_true_eq_false, not_false_eq_true, ]; first | done | omega)) ?_
        repeat (first | with_reducible refine ok_W ?_ | with_reducible refine ok_cO (by first | assumption | omega | (simp (disch := omega) only [n32_of, neg_n32_1, n32_nat, n32_lt, n32_le, n32_eq, n32_add, n32_sub, n32_mul, n32_m1, m1_n32, n32_addm1, m1_lt, lt_m1, m1_le, le_m1, m1_add1, ofNat_n32, u2_self, u2_n, mk_I, mk_T, ne_eq, not_true_eq_false, not_false_eq_true, ]; first | done | omega)) ?_ | with_reducible refine ok_ip (by first | assumption | omega | (simp (disch := omega) only [n32_of, neg_n32_1, n32_nat, n32_lt, n32_le, n32_eq, n32_add, n32_sub, n32_mul, n32_m1, m1_n32, n32_addm1, m1_lt, lt_m1, m1_le, le_m1, m1_add1, ofNat_n32, u2_self, u2_n, mk_I, mk_T, ne_eq, not_true_eq_false, not_false_eq_true, ]; first | done | omega)) ?_ | with_reducible refine ok_in (by first | assumption | omega | (simp (disch := omega) only [n32_of, neg_n32_1, n32_nat, n32_lt, n32_le, n32_eq, n32_add, n32_sub, n32_mul, n32_m1, m1_n32, n32_addm1, m1_lt, lt_m1, m1_le, le_m1, m1_add1, ofNat_n32, u2_self, u2_n, mk_I, mk_T, ne_eq, not_true_eq_false, not_false_eq_true, ]; first | done | omega)) ?_)
        simp (disch := omega) only [n32_of, neg_n32_1, n32_nat, n32_lt, n32_le, n32_eq, n32_add, n32_sub, n32_mul, n32_m1, m1_n32, n32_addm1, m1_lt, lt_m1, m1_le, le_m1, m1_add1, ofNat_n32, u2_self, u2_n, mk_I, mk_T, ]
        refine ih (c + 1) _ (by omega) (by omega) (eqS_u2 he (by omega)) (fun k hk => ?_) (fun b hb => ?_) (fun c' hc' => ?_)
        · simp (disch := omega) only [n32_of, neg_n32_1, n32_nat, n32_lt, n32_le, n32_eq, n32_add, n32_sub, n32_mul, n32_m1, m1_n32, n32_addm1, m1_lt, lt_m1, m1_le, le_m1, m1_add1, ofNat_n32, u2_self, u2_n, mk_I, mk_T, ]; exact z1 k hk
        · simp (disch := omega) only [n32_of, neg_n32_1, n32_nat, n32_lt, n32_le, n32_eq, n32_add, n32_sub, n32_mul, n32_m1, m1_n32, n32_addm1, m1_lt, lt_m1, m1_le, le_m1, m1_add1, ofNat_n32, u2_self, u2_n, mk_I, mk_T, ]; exact z2 b hb
        · by_cases e : c' = c
          · subst e
            simp (disch := omega) only [n32_of, neg_n32_1, n32_nat, n32_lt, n32_le, n32_eq, n32_add, n32_sub, n32_mul, n32_m1, m1_n32, n32_addm1, m1_lt, lt_m1, m1_le, le_m1, m1_add1, ofNat_n32, u2_self, u2_n, mk_I, mk_T, ]
          · simp (disch := omega) only [n32_of, neg_n32_1, n32_nat, n32_lt, n32_le, n32_eq, n32_add, n32_sub, n32_mul, n32_m1, m1_n32, n32_addm1, m1_lt, lt_m1, m1_le, le_m1, m1_add1, ofNat_n32, u2_self, u2_n, mk_I, mk_T, ]; exact z3 c' (by omega)
  have l23 : ∀ (n b : Nat) (f : Nat → Nat → Int32), 6 < n + b → b ≤ 6 → eqS (fun a => a = 276 ∨ a = 277) f0 f → (∀ k, k < 36 → f 276 k = n32 0) → (∀ b', b' < b → f 277 b' = n32 0) → Ok (H_X12_goes_23 N n x1 (n32 b) (mk σ f)) Q := by
    intro n
    induction n with
    | zero => intro c f h1 h2; omega
    | succ n ih =>
      intro b f h1 h2 he z1 z2
      rw [H_X12_goes_23]
      by_cases hc : 6 ≤ b
      · with_reducible refine ok_ip (by first | assumption | omega | (simp (disch := omega) only [n32_of, neg_n32_1, n32_nat, n32_lt, n32_le, n32_eq, n32_add, n32_sub, n32_mul, n32_m1, m1_n32, n32_addm1, m1_lt, lt_m1, m1_le, le_m1, m1_add1, ofNat_n32, u2_self, u2_n, mk_I, mk_T, ne_eq, not_true_eq_false, not_false_eq_true, ]; first | done | omega)) ?_
        exact l44 N 0 f (by omega) (by omega) (eqS_mono he (fun a ha => by omega)) z1 (fun b' hb' => z2 b' (by omega)) (fun c' hc' => absurd hc' (Nat.not_lt_zero _))
      · with_reducible refine ok_in (by first | assumption | omega | (simp (disch := omega) only [n32_of, neg_n32_1, n32_nat, n32_lt, n32_le, n32_eq, n32_add, n32_sub, n32_mul, n32_m1, m1_n32, n32_addm1, m1_lt, lt_m1, m1_le, le_m1, m1_add1, ofNat_n32, u2_self, u2_n, mk_I, mk_T, ne_eq, not_true_eq_false, not_false_eq_true, ]; first | done | omega)) ?_
        repeat (first | with_reducible refine ok_W ?_ | with_reducible refine ok_cO (by first | assumption | omega | (simp (disch := omega) only [n32_of, neg_n32_1, n32_nat, n32_lt, n32_le, n32_eq, n32_add, n32_sub, n32_mul, n32_m1, m1_n32, n32_addm1, m1_lt, lt_m1, m1_le, le_m1, m1_add1, ofNat_n32, u2_self, u2_n, mk_I, mk_T, ne_eq, not_true_eq_false, not_false_eq_true, ]; first | done | omega)) ?_ | with_reducible refine ok_ip (by first | assumption | omega | (simp (disch := omega) only [n32_of, neg_n32_1, n32_nat, n32_lt, n32_le, n32_eq, n32_add, n32_sub, n32_mul, n32_m1, m1_n32, n32_addm1, m1_lt, lt_m1, m1_le, le_m1, m1_add1, ofNat_n32, u2_self, u2_n, mk_I, mk_T, ne_eq, not_true_eq_false, not_false_eq_true, ]; first | done | omega)) ?_ | with_reducible refine ok_in (by first | assumption | omega | (simp (disch := omega) only [n32_of, neg_n32_1, n32_nat, n32_lt, n32_le, n32_eq, n32_add, n32_sub, n32_mul, n32_m1, m1_n32, n32_addm1, m1_lt, lt_m1, m1_le, le_m1, m1_add1, ofNat_n32, u2_self, u2_n, mk_I, mk_T, ne_eq, not_true_eq_false, not_false_eq_true, ]; first | done | omega)) ?_)
        simp (disch := omega) only [n32_of, neg_n32_1, n32_nat, n32_lt, n32_le, n32_eq, n32_add, n32_sub, n32_mul, n32_m1, m1_n32, n32_addm1, m1_lt, lt_m1, m1_le, le_m1, m1_add1, ofNat_n32, u2_self, u2_n, mk_I, mk_T, ]
        refine ih (b + 1) _ (by omega) (by omega) (eqS_u2 he (by omega)) (fun k hk => ?_) (fun b' hb' => ?_)
        · simp (disch := omega) only [n32_of, neg_n32_1, n32_nat, n32_lt, n32_le, n32_eq, n32_add, n32_sub, n32_mul, n32_m1, m1_n32, n32_addm1, m1_lt, lt_m1, m1_le, le_m1, m1_add1, ofNat_n32, u2_self, u2_n, mk_I, mk_T, ]; exact z1 k hk
        · by_cases e : b' = b
          · subst e
            simp (disch := omega) only [n32_of, neg_n32_1, n32_nat, n32_lt, n32_le, n32_eq, n32_add, n32_sub, n32_mul, n32_m1, m1_n32, n32_addm1, m1_lt, lt_m1, m1_le, le_m1, m1_add1, ofNat_n32, u2_self, u2_n, mk_I, mk_T, ]
          · simp (disch := omega) only [n32_of, neg_n32_1, n32_nat, n32_lt, n32_le, n32_eq, n32_add, n32_sub, n32_mul, n32_m1, m1_n32, n32_addm1, m1_lt, lt_m1, m1_le, le_m1, m1_add1, ofNat_n32, u2_self, u2_n, mk_I, mk_T, ]; exact z2 b' (by omega)
  have l2 : ∀ (n k : Nat) (f : Nat → Nat → Int32), 36 < n + k → k ≤ 36 → eqS (fun a => a = 276) f0 f → (∀ k', k' < k → f 276 k' = n32 0) → Ok (H_X12_goes_2 N n x1 (n32 k) (mk σ f)) Q := by
    intro n
    induction n with
    | zero => intro c f h1 h2; omega
    | succ n ih =>
      intro k f h1 h2 he z1
      rw [H_X12_goes_2]
      by_cases hc : 36 ≤ k
      · with_reducible refine ok_ip (by first | assumption | omega | (simp (disch := omega) only [n32_of, neg_n32_1, n32_nat, n32_lt, n32_le, n32_eq, n32_add, n32_sub, n32_mul, n32_m1, m1_n32, n32_addm1, m1_lt, lt_m1, m1_le, le_m1, m1_add1, ofNat_n32, u2_self, u2_n, mk_I, mk_T, ne_eq, not_true_eq_false, not_false_eq_true, ]; first | done | omega)) ?_
        exact l23 N 0 f (by omega) (by omega) (eqS_mono he (fun a ha => by omega)) (fun k' hk' => z1 k' (by omega)) (fun c' hc' => absurd hc' (Nat.not_lt_zero _))
      · with_reducible refine ok_in (by first | assumption | omega | (simp (disch := omega) only [n32_of, neg_n32_1, n32_nat, n32_lt, n32_le, n32_eq, n32_add, n32_sub, n32_mul, n32_m1, m1_n32, n32_addm1, m1_lt, lt_m1, m1_le, le_m1, m1_add1, ofNat_n32, u2_self, u2_n, mk_I, mk_T, ne_eq, not_true_eq_false, not_false_eq_true, ]; first | done | omega)) ?_
        repeat (first | with_reducible refine ok_W ?_ | with_reducible refine ok_cO (by first | assumption | omega | (simp (disch := omega) only [n32_of, neg_n32_1, n32_nat, n32_lt, n32_le, n32_eq, n32_add, n32_sub, n32_mul, n32_m1, m1_n32, n32_addm1, m1_lt, lt_m1, m1_le, le_m1, m1_add1, ofNat_n32, u2_self, u2_n, mk_I, mk_T, ne_eq, not_true_eq_false, not_false_eq_true, ]; first | done | omega)) ?_ | with_reducible refine ok_ip (by first | assumption | omega | (simp (disch := omega) only [n32_of, neg_n32_1, n32_nat, n32_lt, n32_le, n32_eq, n32_add, n32_sub, n32_mul, n32_m1, m1_n32, n32_addm1, m1_lt, lt_m1, m1_le, le_m1, m1_add1, ofNat_n32, u2_self, u2_n, mk_I, mk_T, ne_eq, not_true_eq_false, not_false_eq_true, ]; first | done | omega)) ?_ | with_reducible refine ok_in (by first | assumption | omega | (simp (disch := omega) only [n32_of, neg_n32_1, n32_nat, n32_lt, n32_le, n32_eq, n32_add, n32_sub, n32_mul, n32_m1, m1_n32, n32_addm1, m1_lt, lt_m1, m1_le, le_m1, m1_add1, ofNat_n32, u2_self, u2_n, mk_I, mk_T, ne_eq, not_true_eq_false, not_false_eq_true, ]; first | done | omega)) ?_)
        simp (disch := omega) only [n32_of, neg_n32_1, n32_nat, n32_lt, n32_le, n32_eq, n32_add, n32_sub, n32_mul, n32_m1, m1_n32, n32_addm1, m1_lt, lt_m1, m1_le, le_m1, m1_add1, ofNat_n32, u2_self, u2_n, mk_I, mk_T, ]
        refine ih (k + 1) _ (by omega) (by omega) (eqS_u2 he (by omega)) (fun k' hk' => ?_)
        by_cases e : k' = k
        · subst e
          simp (disch := omega) only [n32_of, neg_n32_1, n32_nat, n32_lt, n32_le, n32_eq, n32_add, n32_sub, n32_mul, n32_m1, m1_n32, n32_addm1, m1_lt, lt_m1, m1_le, le_m1, m1_add1, ofNat_n32, u2_self, u2_n, mk_I, mk_T, ]
        · simp (disch := omega) only [n32_of, neg_n32_1, n32_nat, n32_lt, n32_le, n32_eq, n32_add, n32_sub, n32_mul, n32_m1, m1_n32, n32_addm1, m1_lt, lt_m1, m1_le, le_m1, m1_add1, ofNat_n32, u2_self, u2_n, mk_I, mk_T, ]; exact z1 k' (by omega)
  exact l2 N 0 f0 (by omega) (by omega) eqS_rfl (fun c' hc' => absurd hc' (Nat.not_lt_zero _))
end RGO
-- the program's beginning
theorem x_open {N P : Nat} {x : Int32} {σ : aSt} {f0 : Nat → Nat → Int32} (hN : 1000 ≤ N) : Ok (F_X7_open N P x (mk σ f0)) (fun _ σ' => ∃ f, σ' = mk σ f ∧ eqS (fun a => a = P ∨ a = P + 1) f0 f ∧ f P 0 = x ∧ f P 1 = n32 0 ∧ f P 2 = n32 0 ∧ f P 4 = m1 ∧ ∀ k, k < 6 → f (P + 1) k = n32 0) := by
  have loop : ∀ (n k : Nat) (f : Nat → Nat → Int32), 6 < n + k → k ≤ 6 → eqS (fun a => a = P ∨ a = P + 1) f0 f → f P 0 = x → f P 1 = n32 0 → f P 2 = n32 0 → f P 4 = m1 → (∀ k', k' < k → f (P + 1) k' = n32 0) → Ok (H_X7_open_22 N n P (n32 k) (mk σ f)) (fun _ σ' => ∃ f, σ' = mk σ f ∧ eqS (fun a => a = P ∨ a = P + 1) f0 f ∧ f P 0 = x ∧ f P 1 = n32 0 ∧ f P 2 = n32 0 ∧ f P 4 = m1 ∧ ∀ k, k < 6 → f (P + 1) k = n32 0) := by
    intro n
    induction n with
    | zero => intro k f h1 h2; omega
    | succ n ih =>
      intro k f h1 h2 he a0 a1 a2 a4 z
      rw [H_X7_open_22]
      by_cases hc : 6 ≤ k
      · with_reducible refine ok_ip (by first | assumption | omega | (simp (disch := omega) only [n32_of, neg_n32_1, n32_nat, n32_lt, n32_le, n32_eq, n32_add, n32_sub, n32_mul, n32_m1, m1_n32, n32_addm1, m1_lt, lt_m1, m1_le, le_m1, m1_add1, ofNat_n32, u2_self, u2_n, mk_I, mk_T, ne_eq, not_true_eq_false, not_false_eq_true, ]; first | done | omega)) ?_
        exact ok_some ⟨f, rfl, he, a0, a1, a2, a4, fun k' hk' => z k' (by omega)⟩
      · with_reducible refine ok_in (by first | assumption | omega | (simp (disch := omega) only [n32_of, neg_n32_1, n32_nat, n32_lt, n32_le, n32_eq, n32_add, n32_sub, n32_mul, n32_m1, m1_n32, n32_addm1, m1_lt, lt_m1, m1_le, le_m1, m1_add1, ofNat_n32, u2_self, u2_n, mk_I, mk_T, ne_eq, not_true_eq_false, not_false_eq_true, ]; first | done | omega)) ?_
        repeat (first | with_reducible refine ok_W ?_ | with_reducible refine ok_cO (by first | assumption | omega | (simp (disch := omega) only [n32_of, neg_n32_1, n32_nat, n32_lt, n32_le, n32_eq, n32_add, n32_sub, n32_mul, n32_m1, m1_n32, n32_addm1, m1_lt, lt_m1, m1_le, le_m1, m1_add1, ofNat_n32, u2_self, u2_n, mk_I, mk_T, ne_eq, not_true_eq_false, not_false_eq_true, ]; first | done | omega)) ?_ | with_reducible refine ok_ip (by first | assumption | omega | (simp (disch := omega) only [n32_of, neg_n32_1, n32_nat, n32_lt, n32_le, n32_eq, n32_add, n32_sub, n32_mul, n32_m1, m1_n32, n32_addm1, m1_lt, lt_m1, m1_le, le_m1, m1_add1, ofNat_n32, u2_self, u2_n, mk_I, mk_T, ne_eq, not_true_eq_false, not_false_eq_true, ]; first | done | omega)) ?_ | with_reducible refine ok_in (by first | assumption | omega | (simp (disch := omega) only [n32_of, neg_n32_1, n32_nat, n32_lt, n32_le, n32_eq, n32_add, n32_sub, n32_mul, n32_m1, m1_n32, n32_addm1, m1_lt, lt_m1, m1_le, le_m1, m1_add1, ofNat_n32, u2_self, u2_n, mk_I, mk_T, ne_eq, not_true_eq_false, not_false_eq_true, ]; first | done | omega)) ?_)
        simp (disch := omega) only [n32_of, neg_n32_1, n32_nat, n32_lt, n32_le, n32_eq, n32_add, n32_sub, n32_mul, n32_m1, m1_n32, n32_addm1, m1_lt, lt_m1, m1_le, le_m1, m1_add1, ofNat_n32, u2_self, u2_n, mk_I, mk_T, ]
        refine ih (k + 1) _ (by omega) (by omega) (eqS_u2 he (by omega)) ?_ ?_ ?_ ?_ (fun k' hk' => ?_)
        · simp (disch := omega) only [n32_of, neg_n32_1, n32_nat, n32_lt, n32_le, n32_eq, n32_add, n32_sub, n32_mul, n32_m1, m1_n32, n32_addm1, m1_lt, lt_m1, m1_le, le_m1, m1_add1, ofNat_n32, u2_self, u2_n, mk_I, mk_T, ]; exact a0
        · simp (disch := omega) only [n32_of, neg_n32_1, n32_nat, n32_lt, n32_le, n32_eq, n32_add, n32_sub, n32_mul, n32_m1, m1_n32, n32_addm1, m1_lt, lt_m1, m1_le, le_m1, m1_add1, ofNat_n32, u2_self, u2_n, mk_I, mk_T, ]; exact a1
        · simp (disch := omega) only [n32_of, neg_n32_1, n32_nat, n32_lt, n32_le, n32_eq, n32_add, n32_sub, n32_mul, n32_m1, m1_n32, n32_addm1, m1_lt, lt_m1, m1_le, le_m1, m1_add1, ofNat_n32, u2_self, u2_n, mk_I, mk_T, ]; exact a2
        · simp (disch := omega) only [n32_of, neg_n32_1, n32_nat, n32_lt, n32_le, n32_eq, n32_add, n32_sub, n32_mul, n32_m1, m1_n32, n32_addm1, m1_lt, lt_m1, m1_le, le_m1, m1_add1, ofNat_n32, u2_self, u2_n, mk_I, mk_T, ]; exact a4
        · by_cases e : k' = k
          · subst e
            simp (disch := omega) only [n32_of, neg_n32_1, n32_nat, n32_lt, n32_le, n32_eq, n32_add, n32_sub, n32_mul, n32_m1, m1_n32, n32_addm1, m1_lt, lt_m1, m1_le, le_m1, m1_add1, ofNat_n32, u2_self, u2_n, mk_I, mk_T, ]
          · simp (disch := omega) only [n32_of, neg_n32_1, n32_nat, n32_lt, n32_le, n32_eq, n32_add, n32_sub, n32_mul, n32_m1, m1_n32, n32_addm1, m1_lt, lt_m1, m1_le, le_m1, m1_add1, ofNat_n32, u2_self, u2_n, mk_I, mk_T, ]; exact z k' (by omega)
  unfold F_X7_open
  repeat (first | with_reducible refine ok_W ?_ | with_reducible refine ok_cO (by first | assumption | omega | (simp (disch := omega) only [n32_of, neg_n32_1, n32_nat, n32_lt, n32_le, n32_eq, n32_add, n32_sub, n32_mul, n32_m1, m1_n32, n32_addm1, m1_lt, lt_m1, m1_le, le_m1, m1_add1, ofNat_n32, u2_self, u2_n, mk_I, mk_T, ne_eq, not_true_eq_false, not_false_eq_true, ]; first | done | omega)) ?_ | with_reducible refine ok_ip (by first | assumption | omega | (simp (disch := omega) only [n32_of, neg_n32_1, n32_nat, n32_lt, n32_le, n32_eq, n32_add, n32_sub, n32_mul, n32_m1, m1_n32, n32_addm1, m1_lt, lt_m1, m1_le, le_m1, m1_add1, ofNat_n32, u2_self, u2_n, mk_I, mk_T, ne_eq, not_true_eq_false, not_false_eq_true, ]; first | done | omega)) ?_ | with_reducible refine ok_in (by first | assumption | omega | (simp (disch := omega) only [n32_of, neg_n32_1, n32_nat, n32_lt, n32_le, n32_eq, n32_add, n32_sub, n32_mul, n32_m1, m1_n32, n32_addm1, m1_lt, lt_m1, m1_le, le_m1, m1_add1, ofNat_n32, u2_self, u2_n, mk_I, mk_T, ne_eq, not_true_eq_false, not_false_eq_true, ]; first | done | omega)) ?_)
  refine loop N 0 _ (by omega) (by omega) (eqS_u2 (eqS_u2 (eqS_u2 (eqS_u2 eqS_rfl (by omega)) (by omega)) (by omega)) (by omega)) ?_ ?_ ?_ ?_ (fun k' hk' => absurd hk' (Nat.not_lt_zero _))
  · simp (disch := omega) only [n32_of, neg_n32_1, n32_nat, n32_lt, n32_le, n32_eq, n32_add, n32_sub, n32_mul, n32_m1, m1_n32, n32_addm1, m1_lt, lt_m1, m1_le, le_m1, m1_add1, ofNat_n32, u2_self, u2_n, mk_I, mk_T, ]
  · simp (disch := omega) only [n32_of, neg_n32_1, n32_nat, n32_lt, n32_le, n32_eq, n32_add, n32_sub, n32_mul, n32_m1, m1_n32, n32_addm1, m1_lt, lt_m1, m1_le, le_m1, m1_add1, ofNat_n32, u2_self, u2_n, mk_I, mk_T, ]
  · simp (disch := omega) only [n32_of, neg_n32_1, n32_nat, n32_lt, n32_le, n32_eq, n32_add, n32_sub, n32_mul, n32_m1, m1_n32, n32_addm1, m1_lt, lt_m1, m1_le, le_m1, m1_add1, ofNat_n32, u2_self, u2_n, mk_I, mk_T, ]
  · simp (disch := omega) only [n32_of, neg_n32_1, n32_nat, n32_lt, n32_le, n32_eq, n32_add, n32_sub, n32_mul, n32_m1, m1_n32, n32_addm1, m1_lt, lt_m1, m1_le, le_m1, m1_add1, ofNat_n32, u2_self, u2_n, mk_I, mk_T, ]
/-- purses as a day begins -/
def OP (f : Nat → Nat → Int32) (s b : Nat) (x : Int32) : Prop := f (s + 28 + 2 * b) 0 = x ∧ f (s + 28 + 2 * b) 1 = n32 0 ∧ f (s + 28 + 2 * b) 2 = n32 0 ∧ f (s + 28 + 2 * b) 4 = m1 ∧ ∀ k, k < 6 → f (s + 28 + 2 * b + 1) k = n32 0
theorem x_openP {N s : Nat} {σ : aSt} {D : HD} {f0 : Nat → Nat → Int32} (hN : 1000 ≤ N) (hs : isS s) (hD : HOK D) (hX : HX f0 D) : Ok (F_X9_openPurses N s (mk σ f0)) (fun _ σ' => ∃ f, σ' = mk σ f ∧ eqS (fun a => s + 28 ≤ a ∧ a < s + 40) f0 f ∧ ∀ b, b < hm D → OP f s b (n32 (cr D b))) := by
  have hs' := hs
  unfold isS at hs'
  have m6 := hD.2.1
  unfold F_X9_openPurses
  have loop : ∀ (n b : Nat) (f : Nat → Nat → Int32), hm D < n + b → b ≤ hm D → eqS (fun a => s + 28 ≤ a ∧ a < s + 40) f0 f → (∀ b', b' < b → OP f s b' (n32 (cr D b'))) → Ok (H_X9_openPurses_2 N n s (n32 b) (mk σ f)) (fun _ σ' => ∃ f, σ' = mk σ f ∧ eqS (fun a => s + 28 ≤ a ∧ a < s + 40) f0 f ∧ ∀ b, b < hm D → OP f s b (n32 (cr D b))) := by
    intro n
    induction n with
    | zero => intro k f h1 h2; omega
    | succ n ih =>
      intro b f h1 h2 he z
      have e43 := (he 11 3 (by omega)).trans hX.2.1
      rw [H_X9_openPurses_2]
      by_cases hc : hm D ≤ b
      · with_reducible refine ok_ip (by first | assumption | omega | (simp (disch := omega) only [n32_of, neg_n32_1, n32_nat, n32_lt, n32_le, n32_eq, n32_add, n32_sub, n32_mul, n32_m1, m1_n32, n32_addm1, m1_lt, lt_m1, m1_le, le_m1, m1_add1, ofNat_n32, u2_self, u2_n, mk_I, mk_T, ne_eq, not_true_eq_false, not_false_eq_true, e43]; first | done | omega)) ?_
        exact ok_some ⟨f, rfl, he, fun b' hb' => z b' (by omega)⟩
      · with_reducible refine ok_in (by first | assumption | omega | (simp (disch := omega) only [n32_of, neg_n32_1, n32_nat, n32_lt, n32_le, n32_eq, n32_add, n32_sub, n32_mul, n32_m1, m1_n32, n32_addm1, m1_lt, lt_m1, m1_le, le_m1, m1_add1, ofNat_n32, u2_self, u2_n, mk_I, mk_T, ne_eq, not_true_eq_false, not_false_eq_true, e43]; first | done | omega)) ?_
        repeat (first | with_reducible refine ok_W ?_ | with_reducible refine ok_cO (by first | assumption | omega | (simp (disch := omega) only [n32_of, neg_n32_1, n32_nat, n32_lt, n32_le, n32_eq, n32_add, n32_sub, n32_mul, n32_m1, m1_n32, n32_addm1, m1_lt, lt_m1, m1_le, le_m1, m1_add1, ofNat_n32, u2_self, u2_n, mk_I, mk_T, ne_eq, not_true_eq_false, not_false_eq_true, ]; first | done | omega)) ?_ | with_reducible refine ok_ip (by first | assumption | omega | (simp (disch := omega) only [n32_of, neg_n32_1, n32_nat, n32_lt, n32_le, n32_eq, n32_add, n32_sub, n32_mul, n32_m1, m1_n32, n32_addm1, m1_lt, lt_m1, m1_le, le_m1, m1_add1, ofNat_n32, u2_self, u2_n, mk_I, mk_T, ne_eq, not_true_eq_false, not_false_eq_true, ]; first | done | omega)) ?_ | with_reducible refine ok_in (by first | assumption | omega | (simp (disch := omega) only [n32_of, neg_n32_1, n32_nat, n32_lt, n32_le, n32_eq, n32_add, n32_sub, n32_mul, n32_m1, m1_n32, n32_addm1, m1_lt, lt_m1, m1_le, le_m1, m1_add1, ofNat_n32, u2_self, u2_n, mk_I, mk_T, ne_eq, not_true_eq_false, not_false_eq_true, ]; first | done | omega)) ?_)
        have ec := (he (47 + 9 * b) 1 (by omega)).trans (hX.2.2.2.2.1 b (by omega)).2
        simp (disch := omega) only [n32_of, neg_n32_1, n32_nat, n32_lt, n32_le, n32_eq, n32_add, n32_sub, n32_mul, n32_m1, m1_n32, n32_addm1, m1_lt, lt_m1, m1_le, le_m1, m1_add1, ofNat_n32, u2_self, u2_n, mk_I, mk_T, ec]
        refine ok_bind (x_open hN) (fun _ σ1 hq => ?_)
        obtain ⟨f1, rfl, he1, w⟩ := hq
        refine ih (b + 1) f1 (by omega) (by omega) (eqS_tr he (eqS_mono he1 (fun a ha => by omega))) (fun b' hb' => ?_)
        by_cases e : b' = b
        · subst e
          exact w
        · obtain ⟨v1, v2, v3, v4, v5⟩ := z b' (by omega)
          exact ⟨(he1 _ _ (by omega)).trans v1, (he1 _ _ (by omega)).trans v2, (he1 _ _ (by omega)).trans v3, (he1 _ _ (by omega)).trans v4, fun k hk => (he1 _ _ (by omega)).trans (v5 k hk)⟩
  exact loop N 0 f0 (by omega) (by omega) eqS_rfl (fun c' hc' => absurd hc' (Nat.not_lt_zero _))
theorem held_n {x : Int32} {m : Nat} (h1 : 1 ≤ m) (h2 : m ≤ 999) : ∃ k, 1 ≤ k ∧ k ≤ m ∧ held x (n32 m) = n32 k := by
  unfold held mx mn
  by_cases a : n32 m < x
  · rw [if_pos a]
    by_cases b : n32 1 < n32 m
    · rw [if_pos b]
      exact ⟨m, h1, Nat.le_refl _, rfl⟩
    · rw [if_neg b]
      exact ⟨1, Nat.le_refl _, h1, rfl⟩
  · rw [if_neg a]
    by_cases b : n32 1 < x
    · rw [if_pos b]
      rw [Int32.lt_iff_toInt_lt, n32_toInt (by omega)] at a b
      refine ⟨x.toInt.toNat, by omega, by omega, ?_⟩
      rw [← Int32.toInt_inj, n32_toInt (by omega)]
      omega
    · rw [if_neg b]
      exact ⟨1, Nat.le_refl _, h1, rfl⟩
/-- the numbers of a hall's text -/
def sN (D : HD) (rh : List Ru) (l : Nat) : Nat := (startP D rh l).toNatClampNeg
def eN (D : HD) (rh : List Ru) (l : Nat) : Nat := (leastP D rh l (startP D rh l)).toNatClampNeg
theorem sN_ok (D : HD) (rh : List Ru) (l : Nat) : (1 ≤ eN D rh l ∧ eN D rh l ≤ sN D rh l ∧ sN D rh l ≤ 999) ∧ n32 (sN D rh l) = startP D rh l ∧ n32 (eN D rh l) = leastP D rh l (startP D rh l) := by
  obtain ⟨k, k1, k2, k3⟩ := held_n (x := vof (lv D l) 1 (n32 100) rh) (m := 999) (by omega) (by omega)
  have hs : startP D rh l = n32 k := k3
  obtain ⟨j, j1, j2, j3⟩ := held_n (x := vof (lv D l) 2 (n32 1) rh) (m := k) k1 k2
  have hl : leastP D rh l (startP D rh l) = n32 j := by rw [hs]; exact j3
  unfold eN sN
  rw [hl, hs, n32_nat (by omega), n32_nat (by omega)]
  exact ⟨⟨j1, j2, k2⟩, rfl, rfl⟩
def mkK (D : HD) (rt : Nat → List Ru) (o : Option Nat) : SP := (D, (fun b => rt (b + 1)), sN D (rt 0), eN D (rt 0), o)
theorem mkK_ok {D : HD} {rt : Nat → List Ru} {o : Option Nat} (hD : HOK D) : KOK (mkK D rt o) ∧ KH (mkK D rt o) (rt 0) := ⟨⟨hD, fun l _ => (sN_ok D (rt 0) l).1⟩, fun l _ => (sN_ok D (rt 0) l).2⟩
section XBEG
variable {N s : Nat} {σ : aSt} {K : SP} {Q : Unit → aSt → Prop}
theorem x_beg54 {rh : List Ru} {f0 : Nat → Nat → Int32} (hN : 1000 ≤ N) (hs : isS s) (hK : KOK K) (hKH : KH K rh) (hC : XC f0 σ K) (ht : isTx (aTxt σ 11 5)) (hT : XT f0 (aTxt σ 11 5) rh) (hok : okT rh) : ∀ (n i : Nat) (f : Nat → Nat → Int32), hn (kD K) < n + i → i ≤ hn (kD K) → eqS (fun a => scX a ∨ (s + 4 ≤ a ∧ a < s + 28)) f0 f → (∀ l, l < i → f (s + 4 + l) 0 = m1 ∧ f (s + 4 + l) 4 = n32 (kS K l) ∧ f (s + 4 + l) 5 = n32 (kL K l) ∧ f (s + 4 + l) 7 = m1) → Ok (H_X9_begin_54 N n s (n32 i) (mk σ f)) (fun _ σ' => ∃ f', σ' = mk σ f' ∧ eqS (fun a => scX a ∨ (s + 4 ≤ a ∧ a < s + 28)) f0 f' ∧ ∀ l, l < hn (kD K) → f' (s + 4 + l) 0 = m1 ∧ f' (s + 4 + l) 4 = n32 (kS K l) ∧ f' (s + 4 + l) 5 = n32 (kL K l) ∧ f' (s + 4 + l) 7 = m1) := by
  have hs' := hs
  unfold isS at hs'
  have n24 := hK.1.1
  intro n
  induction n with
  | zero => intro i f h1 h2; omega
  | succ n ih =>
    intro i f h1 h2 he hd
    have heS : eqS (scXS s) f0 f := eqS_mono he (fun a ha => by omega)
    have hCf := XC_S hs hK.1 hC heS
    have e11 := hCf.1.1
    rw [H_X9_begin_54]
    by_cases hi : hn (kD K) ≤ i
    · with_reducible refine ok_ip (by first | assumption | omega | (simp (disch := omega) only [n32_of, neg_n32_1, n32_nat, n32_lt, n32_le, n32_eq, n32_add, n32_sub, n32_mul, n32_m1, m1_n32, n32_addm1, m1_lt, lt_m1, m1_le, le_m1, m1_add1, ofNat_n32, u2_self, u2_n, mk_I, mk_T, ne_eq, not_true_eq_false, not_false_eq_true, e11]; first | done | omega)) ?_
      exact ok_some ⟨f, rfl, he, fun l hl => hd l (by omega)⟩
    · with_reducible refine ok_in (by first | assumption | omega | (simp (disch := omega) only [n32_of, neg_n32_1, n32_nat, n32_lt, n32_le, n32_eq, n32_add, n32_sub, n32_mul, n32_m1, m1_n32, n32_addm1, m1_lt, lt_m1, m1_le, le_m1, m1_add1, ofNat_n32, u2_self, u2_n, mk_I, mk_T, ne_eq, not_true_eq_false, not_false_eq_true, e11]; first | done | omega)) ?_
      have hi' : i < hn (kD K) := by omega
      obtain ⟨k1, k2⟩ := hKH i hi'
      repeat (first | with_reducible refine ok_W ?_ | with_reducible refine ok_cO (by first | assumption | omega | (simp (disch := omega) only [n32_of, neg_n32_1, n32_nat, n32_lt, n32_le, n32_eq, n32_add, n32_sub, n32_mul, n32_m1, m1_n32, n32_addm1, m1_lt, lt_m1, m1_le, le_m1, m1_add1, ofNat_n32, u2_self, u2_n, mk_I, mk_T, ne_eq, not_true_eq_false, not_false_eq_true, ]; first | done | omega)) ?_ | with_reducible refine ok_ip (by first | assumption | omega | (simp (disch := omega) only [n32_of, neg_n32_1, n32_nat, n32_lt, n32_le, n32_eq, n32_add, n32_sub, n32_mul, n32_m1, m1_n32, n32_addm1, m1_lt, lt_m1, m1_le, le_m1, m1_add1, ofNat_n32, u2_self, u2_n, mk_I, mk_T, ne_eq, not_true_eq_false, not_false_eq_true, ]; first | done | omega)) ?_ | with_reducible refine ok_in (by first | assumption | omega | (simp (disch := omega) only [n32_of, neg_n32_1, n32_nat, n32_lt, n32_le, n32_eq, n32_add, n32_sub, n32_mul, n32_m1, m1_n32, n32_addm1, m1_lt, lt_m1, m1_le, le_m1, m1_add1, ofNat_n32, u2_self, u2_n, mk_I, mk_T, ne_eq, not_true_eq_false, not_false_eq_true, ]; first | done | omega)) ?_)
      simp (disch := omega) only [n32_of, neg_n32_1, n32_nat, n32_lt, n32_le, n32_eq, n32_add, n32_sub, n32_mul, n32_m1, m1_n32, n32_addm1, m1_lt, lt_m1, m1_le, le_m1, m1_add1, ofNat_n32, u2_self, u2_n, mk_I, mk_T, ]
      have he1 : eqS (scXS s) f (u2 (u2 f (s + 4 + i) 0 m1) (s + 4 + i) 7 m1) := eqS_u2 (eqS_u2 eqS_rfl (by omega)) (by omega)
      have hC1 := XC_S hs hK.1 hCf he1
      have htx := tx_in ht
      have hTf : XT f (aTxt σ 11 5) rh := XT_S hT heS (fun j hj => by omega)
      refine ok_bind (x_start hN hK.1 hC1.1 hi' ht (XT_S hTf he1 (fun j hj => by omega)) hok) (fun y σ1 hq => ?_)
      obtain ⟨rfl, f1, rfl, he2⟩ := hq
      rw [← k1]
      repeat (first | with_reducible refine ok_W ?_ | with_reducible refine ok_cO (by first | assumption | omega | (simp (disch := omega) only [n32_of, neg_n32_1, n32_nat, n32_lt, n32_le, n32_eq, n32_add, n32_sub, n32_mul, n32_m1, m1_n32, n32_addm1, m1_lt, lt_m1, m1_le, le_m1, m1_add1, ofNat_n32, u2_self, u2_n, mk_I, mk_T, ne_eq, not_true_eq_false, not_false_eq_true, ]; first | done | omega)) ?_ | with_reducible refine ok_ip (by first | assumption | omega | (simp (disch := omega) only [n32_of, neg_n32_1, n32_nat, n32_lt, n32_le, n32_eq, n32_add, n32_sub, n32_mul, n32_m1, m1_n32, n32_addm1, m1_lt, lt_m1, m1_le, le_m1, m1_add1, ofNat_n32, u2_self, u2_n, mk_I, mk_T, ne_eq, not_true_eq_false, not_false_eq_true, ]; first | done | omega)) ?_ | with_reducible refine ok_in (by first | assumption | omega | (simp (disch := omega) only [n32_of, neg_n32_1, n32_nat, n32_lt, n32_le, n32_eq, n32_add, n32_sub, n32_mul, n32_m1, m1_n32, n32_addm1, m1_lt, lt_m1, m1_le, le_m1, m1_add1, ofNat_n32, u2_self, u2_n, mk_I, mk_T, ne_eq, not_true_eq_false, not_false_eq_true, ]; first | done | omega)) ?_)
      simp (disch := omega) only [n32_of, neg_n32_1, n32_nat, n32_lt, n32_le, n32_eq, n32_add, n32_sub, n32_mul, n32_m1, m1_n32, n32_addm1, m1_lt, lt_m1, m1_le, le_m1, m1_add1, ofNat_n32, u2_self, u2_n, mk_I, mk_T, ]
      have he3 : eqS (scXS s) f (u2 f1 (s + 4 + i) 4 (n32 (kS K i))) := eqS_u2 (eqS_tr he1 (eqS_mono he2 (fun a ha => by omega))) (by omega)
      have hC3 := XC_S hs hK.1 hCf he3
      refine ok_bind (x_least (s := n32 (kS K i)) hN hK.1 hC3.1 hi' ht (XT_S hTf he3 (fun j hj => by omega)) hok) (fun y σ2 hq => ?_)
      obtain ⟨rfl, f2, rfl, he4⟩ := hq
      rw [k1, ← k2]
      repeat (first | with_reducible refine ok_W ?_ | with_reducible refine ok_cO (by first | assumption | omega | (simp (disch := omega) only [n32_of, neg_n32_1, n32_nat, n32_lt, n32_le, n32_eq, n32_add, n32_sub, n32_mul, n32_m1, m1_n32, n32_addm1, m1_lt, lt_m1, m1_le, le_m1, m1_add1, ofNat_n32, u2_self, u2_n, mk_I, mk_T, ne_eq, not_true_eq_false, not_false_eq_true, ]; first | done | omega)) ?_ | with_reducible refine ok_ip (by first | assumption | omega | (simp (disch := omega) only [n32_of, neg_n32_1, n32_nat, n32_lt, n32_le, n32_eq, n32_add, n32_sub, n32_mul, n32_m1, m1_n32, n32_addm1, m1_lt, lt_m1, m1_le, le_m1, m1_add1, ofNat_n32, u2_self, u2_n, mk_I, mk_T, ne_eq, not_true_eq_false, not_false_eq_true, ]; first | done | omega)) ?_ | with_reducible refine ok_in (by first | assumption | omega | (simp (disch := omega) only [n32_of, neg_n32_1, n32_nat, n32_lt, n32_le, n32_eq, n32_add, n32_sub, n32_mul, n32_m1, m1_n32, n32_addm1, m1_lt, lt_m1, m1_le, le_m1, m1_add1, ofNat_n32, u2_self, u2_n, mk_I, mk_T, ne_eq, not_true_eq_false, not_false_eq_true, ]; first | done | omega)) ?_)
      refine ih (i + 1) _ (by omega) (by omega) (eqS_u2 ?_ (by omega)) (fun l hl => ?_)
      · intro a k ha
        rw [he4 a k (by omega), u2_n (by omega), he2 a k (by omega), u2_n (by omega), u2_n (by omega)]
        exact he a k ha
      · by_cases e : l = i
        · subst e
          refine ⟨?_, ?_, ?_, ?_⟩
          · rw [u2_n (by omega), he4 _ _ (by omega), u2_n (by omega), he2 _ _ (by omega), u2_n (by omega), u2_self]
          · rw [u2_n (by omega), he4 _ _ (by omega), u2_self]
          · rw [u2_self]
          · rw [u2_n (by omega), he4 _ _ (by omega), u2_n (by omega), he2 _ _ (by omega), u2_self]
        · have hdl := hd l (by omega)
          have key : ∀ k, u2 f2 (s + 4 + i) 5 (n32 (kL K i)) (s + 4 + l) k = f (s + 4 + l) k := fun k => by
            rw [u2_n (by omega), he4 _ _ (by omega), u2_n (by omega), he2 _ _ (by omega), u2_n (by omega), u2_n (by omega)]
          rw [key, key, key, key]
          exact hdl
theorem x_begin {rh : List Ru} {f0 : Nat → Nat → Int32} (hN : 1000 ≤ N) (hs : isS s) (hK : KOK K) (hKH : KH K rh) (hC : XC f0 σ K) (ht : isTx (aTxt σ 11 5)) (hT : XT f0 (aTxt σ 11 5) rh) (hok : okT rh) : Ok (F_X9_begin N s (oI (kO K)) (mk σ f0)) (fun _ σ' => ∃ f', σ' = mk σ f' ∧ eqS (scXS s) f0 f' ∧ XH f' σ s K G0) := by
  have hs' := hs
  unfold isS at hs'
  have n24 := hK.1.1
  have m6 := hK.1.2.1
  have htx := tx_in ht
  unfold F_X9_begin
  repeat (first | with_reducible refine ok_W ?_ | with_reducible refine ok_cO (by first | assumption | omega | (simp (disch := omega) only [n32_of, neg_n32_1, n32_nat, n32_lt, n32_le, n32_eq, n32_add, n32_sub, n32_mul, n32_m1, m1_n32, n32_addm1, m1_lt, lt_m1, m1_le, le_m1, m1_add1, ofNat_n32, u2_self, u2_n, mk_I, mk_T, ne_eq, not_true_eq_false, not_false_eq_true, ]; first | done | omega)) ?_ | with_reducible refine ok_ip (by first | assumption | omega | (simp (disch := omega) only [n32_of, neg_n32_1, n32_nat, n32_lt, n32_le, n32_eq, n32_add, n32_sub, n32_mul, n32_m1, m1_n32, n32_addm1, m1_lt, lt_m1, m1_le, le_m1, m1_add1, ofNat_n32, u2_self, u2_n, mk_I, mk_T, ne_eq, not_true_eq_false, not_false_eq_true, ]; first | done | omega)) ?_ | with_reducible refine ok_in (by first | assumption | omega | (simp (disch := omega) only [n32_of, neg_n32_1, n32_nat, n32_lt, n32_le, n32_eq, n32_add, n32_sub, n32_mul, n32_m1, m1_n32, n32_addm1, m1_lt, lt_m1, m1_le, le_m1, m1_add1, ofNat_n32, u2_self, u2_n, mk_I, mk_T, ne_eq, not_true_eq_false, not_false_eq_true, ]; first | done | omega)) ?_)
  simp (disch := omega) only [n32_of, neg_n32_1, n32_nat, n32_lt, n32_le, n32_eq, n32_add, n32_sub, n32_mul, n32_m1, m1_n32, n32_addm1, m1_lt, lt_m1, m1_le, le_m1, m1_add1, ofNat_n32, u2_self, u2_n, mk_I, mk_T, ]
  have he1 : eqS (scXS s) f0 (u2 (u2 (u2 (u2 (u2 f0 s 5 (oI (kO K))) s 3 m1) s 6 (n32 0)) s 7 (n32 0)) s 8 (n32 0)) := eqS_u2 (eqS_u2 (eqS_u2 (eqS_u2 (eqS_u2 eqS_rfl (by omega)) (by omega)) (by omega)) (by omega)) (by omega)
  have hf1 : ∀ g, g = u2 (u2 (u2 (u2 (u2 f0 s 5 (oI (kO K))) s 3 m1) s 6 (n32 0)) s 7 (n32 0)) s 8 (n32 0) → g s 5 = oI (kO K) ∧ g s 3 = m1 ∧ g s 6 = n32 0 ∧ g s 7 = n32 0 ∧ g s 8 = n32 0 := by
    intro g hg
    subst hg
    refine ⟨?_, ?_, ?_, ?_, ?_⟩ <;> simp (disch := omega) only [n32_of, neg_n32_1, n32_nat, n32_lt, n32_le, n32_eq, n32_add, n32_sub, n32_mul, n32_m1, m1_n32, n32_addm1, m1_lt, lt_m1, m1_le, le_m1, m1_add1, ofNat_n32, u2_self, u2_n, mk_I, mk_T, ]
  generalize u2 (u2 (u2 (u2 (u2 f0 s 5 (oI (kO K))) s 3 m1) s 6 (n32 0)) s 7 (n32 0)) s 8 (n32 0) = f1 at he1 hf1
  obtain ⟨a5, a3, a6, a7, a8⟩ := hf1 f1 rfl
  have hC1 := XC_S hs hK.1 hC he1
  refine ok_bind (x_openP hN hs hK.1 hC1.1) (fun _ σ2 hq => ?_)
  obtain ⟨f2, rfl, he2, hop⟩ := hq
  have l31 : ∀ (n c : Nat) (f : Nat → Nat → Int32), 3 < n + c → c ≤ 3 → eqS (fun a => s + 40 ≤ a ∧ a < s + 46) f2 f → (∀ c', c' < c → f (s + 40 + 2 * c') 0 = m1) → Ok (H_X9_begin_31 N n s (n32 c) (mk σ f)) (fun _ σ' => ∃ f', σ' = mk σ f' ∧ eqS (scXS s) f0 f' ∧ XH f' σ s K G0) := by
    intro n
    induction n with
    | zero => intro c f h1 h2; omega
    | succ n ih =>
      intro c f h1 h2 he z
      rw [H_X9_begin_31]
      by_cases hc : 3 ≤ c
      · with_reducible refine ok_ip (by first | assumption | omega | (simp (disch := omega) only [n32_of, neg_n32_1, n32_nat, n32_lt, n32_le, n32_eq, n32_add, n32_sub, n32_mul, n32_m1, m1_n32, n32_addm1, m1_lt, lt_m1, m1_le, le_m1, m1_add1, ofNat_n32, u2_self, u2_n, mk_I, mk_T, ne_eq, not_true_eq_false, not_false_eq_true, ]; first | done | omega)) ?_
        have he02 : eqS (scXS s) f0 f := eqS_tr he1 (eqS_tr (eqS_mono he2 (fun a ha => by omega)) (eqS_mono he (fun a ha => by omega)))
        refine ok_mono (x_beg54 hN hs hK hKH (XC_S hs hK.1 hC he02) ht (XT_S hT he02 (fun j hj => by omega)) hok N 0 f (by omega) (by omega) eqS_rfl (fun l hl => absurd hl (Nat.not_lt_zero l))) (fun _ σ' hq => ?_)
        obtain ⟨f', rfl, he', hd⟩ := hq
        have he03 : eqS (scXS s) f0 f' := eqS_tr he02 (eqS_mono he' (fun a ha => by omega))
        have k0 : ∀ k, f' s k = f1 s k := fun k => by rw [he' _ _ (by omega), he _ _ (by omega), he2 _ _ (by omega)]
        have kp : ∀ a k, s + 28 ≤ a → a < s + 40 → f' a k = f2 a k := fun a k h1 h2 => by rw [he' _ _ (by omega), he _ _ (by omega)]
        refine ⟨f', rfl, he03, ⟨XC_S hs hK.1 hC he03, ⟨(k0 _).trans a5, (k0 _).trans a6, (k0 _).trans a7, (k0 _).trans a8⟩, fun c' hc' => ?_, fun c' l hc' hl => (by cases hl), fun b hb => ?_, fun l hl => hd l hl, fun l r hr => (by cases hr)⟩, fun c' l hc' hl => (by cases hl), fun b hb => ?_, (k0 _).trans a3⟩
        · rw [he' _ _ (by omega)]
          exact z c' (by omega)
        · obtain ⟨v1, v2, v3, v4, v5⟩ := hop b hb
          exact ⟨⟨(kp _ _ (by omega) (by omega)).trans v1, fun k hk => (kp _ _ (by omega) (by omega)).trans (v5 k hk)⟩, (kp _ _ (by omega) (by omega)).trans v2, (kp _ _ (by omega) (by omega)).trans v3⟩
        · obtain ⟨v1, v2, v3, v4, v5⟩ := hop b hb
          exact ⟨none, (kp _ _ (by omega) (by omega)).trans v4, fun t ht => (by cases ht), fun h => (by cases h)⟩
      · with_reducible refine ok_in (by first | assumption | omega | (simp (disch := omega) only [n32_of, neg_n32_1, n32_nat, n32_lt, n32_le, n32_eq, n32_add, n32_sub, n32_mul, n32_m1, m1_n32, n32_addm1, m1_lt, lt_m1, m1_le, le_m1, m1_add1, ofNat_n32, u2_self, u2_n, mk_I, mk_T, ne_eq, not_true_eq_false, not_false_eq_true, ]; first | done | omega)) ?_
        repeat (first | with_reducible refine ok_W ?_ | with_reducible refine ok_cO (by first | assumption | omega | (simp (disch := omega) only [n32_of, neg_n32_1, n32_nat, n32_lt, n32_le, n32_eq, n32_add, n32_sub, n32_mul, n32_m1, m1_n32, n32_addm1, m1_lt, lt_m1, m1_le, le_m1, m1_add1, ofNat_n32, u2_self, u2_n, mk_I, mk_T, ne_eq, not_true_eq_false, not_false_eq_true, ]; first | done | omega)) ?_ | with_reducible refine ok_ip (by first | assumption | omega | (simp (disch := omega) only [n32_of, neg_n32_1, n32_nat, n32_lt, n32_le, n32_eq, n32_add, n32_sub, n32_mul, n32_m1, m1_n32, n32_addm1, m1_lt, lt_m1, m1_le, le_m1, m1_add1, ofNat_n32, u2_self, u2_n, mk_I, mk_T, ne_eq, not_true_eq_false, not_false_eq_true, ]; first | done | omega)) ?_ | with_reducible refine ok_in (by first | assumption | omega | (simp (disch := omega) only [n32_of, neg_n32_1, n32_nat, n32_lt, n32_le, n32_eq, n32_add, n32_sub, n32_mul, n32_m1, m1_n32, n32_addm1, m1_lt, lt_m1, m1_le, le_m1, m1_add1, ofNat_n32, u2_self, u2_n, mk_I, mk_T, ne_eq, not_true_eq_false, not_false_eq_true, ]; first | done | omega)) ?_)
        simp (disch := omega) only [n32_of, neg_n32_1, n32_nat, n32_lt, n32_le, n32_eq, n32_add, n32_sub, n32_mul, n32_m1, m1_n32, n32_addm1, m1_lt, lt_m1, m1_le, le_m1, m1_add1, ofNat_n32, u2_self, u2_n, mk_I, mk_T, ]
        refine ih (c + 1) _ (by omega) (by omega) (eqS_u2 he (by omega)) (fun c' hc' => ?_)
        by_cases e : c' = c
        · subst e
          simp (disch := omega) only [n32_of, neg_n32_1, n32_nat, n32_lt, n32_le, n32_eq, n32_add, n32_sub, n32_mul, n32_m1, m1_n32, n32_addm1, m1_lt, lt_m1, m1_le, le_m1, m1_add1, ofNat_n32, u2_self, u2_n, mk_I, mk_T, ]
        · simp (disch := omega) only [n32_of, neg_n32_1, n32_nat, n32_lt, n32_le, n32_eq, n32_add, n32_sub, n32_mul, n32_m1, m1_n32, n32_addm1, m1_lt, lt_m1, m1_le, le_m1, m1_add1, ofNat_n32, u2_self, u2_n, mk_I, mk_T, ]; exact z c' (by omega)
  exact l31 N 0 f2 (by omega) (by omega) eqS_rfl (fun c' hc' => absurd hc' (Nat.not_lt_zero _))
end XBEG
/-- the whole sale: the program's, and from its end the reference's -/
theorem sale_all {N s : Nat} {σ σr : aSt} {K : SP} {rh : List Ru} {f fr : Nat → Nat → Int32} {l0 : Nat} (hN : 100000 ≤ N) (hs : isS s) (hK : KOK K) (hKH : KH K rh) (hO : ∀ b, kO K = some b → b < 6) (hok : okT rh) (hC : XC f σ K) (ht : isTx (aTxt σ 11 5)) (hT : XT f (aTxt σ 11 5) rh) (hl0 : l0 < 2) (hlv : fr 243 0 = n32 l0) (hRC : RC fr K) (hRT : RT fr l0 rh) : Ok (F_X9_hold N s (oI (kO K)) (mk σ f)) (fun _ σ' => ∃ G' f', σ' = mk σ f' ∧ ggo G' = hn (kD K) ∧ GI K G' ∧ (gsec G' ≤ 24000 ∧ (0 < hn (kD K) → 0 < gsec G')) ∧ XH f' σ s K G' ∧ eqS (scXS s) f f' ∧ Ok (F_X12_goes N (oI (kO K)) (mk σr fr)) (fun y σ'' => y = pre (gsec G') ∧ ∃ fr', σ'' = mk σr fr' ∧ RS fr' K G' ∧ eqS scS fr fr')) := by
  have n24 := hK.1.1
  unfold F_X9_hold
  refine ok_bind (x_begin (by omega) hs hK hKH hC ht hT hok) (fun _ σ1 hq => ?_)
  obtain ⟨f1, rfl, he1, hX1⟩ := hq
  refine ok_mono (sale_core (σr := σr) (x1 := oI (kO K)) hN hs hK rfl hO (hn (kD K)) N 0 G0 f1 (by show hn (kD K) - 0 ≤ _; omega) G0_I (Nat.zero_le _) (Nat.zero_le _) (by omega) hX1) (fun _ σ' hq => ?_)
  obtain ⟨G', f', rfl, g1, g2, g3, g4, g5, g6⟩ := hq
  refine ⟨G', f', rfl, g1, g2, ⟨g3.1, g3.2.1⟩, g4, eqS_tr he1 g5, ?_⟩
  refine r_goes (by omega) hK hKH hRC hl0 hlv hRT hok (fun fr1 hR1 he2 => ?_)
  refine g6 _ fr1 N hR1 (by show 1000 * (hn (kD K) - 0) + 1 ≤ N; omega) (fun n' fr' hn' hR' he' => ?_)
  obtain ⟨n', rfl⟩ : ∃ m, n' = m + 1 := ⟨n' - 1, by omega⟩
  have e37 := hR'.1.1.1
  rw [H_X12_goes_113]
  with_reducible refine ok_ip (by first | assumption | omega | (simp (disch := omega) only [n32_of, neg_n32_1, n32_nat, n32_lt, n32_le, n32_eq, n32_add, n32_sub, n32_mul, n32_m1, m1_n32, n32_addm1, m1_lt, lt_m1, m1_le, le_m1, m1_add1, ofNat_n32, u2_self, u2_n, mk_I, mk_T, ne_eq, not_true_eq_false, not_false_eq_true, e37, g1]; first | done | omega)) ?_
  exact ok_some ⟨rfl, fr', rfl, hR', eqS_tr he2 he'⟩
