def mxl (lim : Nat → Int32) (x : Int32) : Nat → Int32
  | 0 => x
  | b + 1 => mx (mxl lim x b) (lim b)
theorem mx_l (x y : Int32) : x ≤ mx x y := by
  unfold mx
  split
  · next h => exact Int32.le_of_lt h
  · exact Int32.le_refl _
theorem mx_r (x y : Int32) : y ≤ mx x y := by
  unfold mx
  split
  · exact Int32.le_refl _
  · next h => exact Int32.not_lt.mp h
theorem mx_or (x y : Int32) : mx x y = x ∨ mx x y = y := by
  unfold mx
  split
  · exact Or.inr rfl
  · exact Or.inl rfl
theorem mxl_0 (lim : Nat → Int32) (x : Int32) : ∀ m, x ≤ mxl lim x m
  | 0 => Int32.le_refl _
  | m + 1 => Int32.le_trans (mxl_0 lim x m) (mx_l _ _)
theorem mxl_b (lim : Nat → Int32) (x : Int32) : ∀ m b, b < m → lim b ≤ mxl lim x m
  | 0, b, h => absurd h (Nat.not_lt_zero b)
  | m + 1, b, h => by
    by_cases e : b = m
    · rw [e]
      exact mx_r _ _
    · exact Int32.le_trans (mxl_b lim x m b (by omega)) (mx_l _ _)
theorem mxl_or (lim : Nat → Int32) (x : Int32) : ∀ m, mxl lim x m = x ∨ ∃ b, b < m ∧ mxl lim x m = lim b
  | 0 => Or.inl rfl
  | m + 1 => by
    rcases mx_or (mxl lim x m) (lim m) with h | h
    · rcases mxl_or lim x m with g | ⟨b, g1, g2⟩
      · exact Or.inl (h.trans g)
      · exact Or.inr ⟨b, by omega, h.trans g2⟩
    · exact Or.inr ⟨m, by omega, h⟩
/-- how long nothing happens at a clock -/
def QS (lim : Nat → Int32) (m le p q : Nat) : Prop := q ≤ 998 ∧ q < p ∧ (∀ j, j < q → le < p - j ∧ ∀ b, b < m → lim b < n32 (p - j)) ∧ (p - q ≤ le ∨ ∃ b, b < m ∧ ¬ lim b < n32 (p - q))
theorem qs_of {lim : Nat → Int32} {m le p : Nat} (h1 : 1 ≤ le) (h2 : le ≤ p) (h3 : p ≤ 999) : ∃ q, QS lim m le p q ∧ (if n32 p ≤ mxl lim (n32 le) m then n32 0 else n32 p - mxl lim (n32 le) m) = n32 q := by
  have g0 := mxl_0 lim (n32 le) m
  have gb := mxl_b lim (n32 le) m
  have go := mxl_or lim (n32 le) m
  generalize mxl lim (n32 le) m = v at g0 gb go
  by_cases hc : n32 p ≤ v
  · refine ⟨0, ⟨by omega, by omega, fun j hj => absurd hj (Nat.not_lt_zero j), ?_⟩, if_pos hc⟩
    rcases go with g | ⟨b, g1, g2⟩
    · left
      rw [g, n32_le (by omega) (by omega)] at hc
      omega
    · right
      refine ⟨b, g1, ?_⟩
      rw [← g2]
      exact Int32.not_lt.mpr hc
  · have hlt := Int32.not_le.mp hc
    rw [Int32.le_iff_toInt_le, n32_toInt (by omega)] at g0
    rw [Int32.lt_iff_toInt_lt, n32_toInt (by omega)] at hlt
    obtain ⟨k, hk⟩ : ∃ k : Nat, v = n32 k ∧ le ≤ k ∧ k < p := by
      refine ⟨v.toInt.toNat, ?_, by omega, by omega⟩
      rw [← Int32.toInt_inj, n32_toInt (by omega)]
      omega
    obtain ⟨rfl, k1, k2⟩ := hk
    refine ⟨p - k, ⟨by omega, by omega, fun j hj => ⟨by omega, fun b hb => ?_⟩, ?_⟩, ?_⟩
    · refine Int32.lt_of_le_of_lt (gb b hb) ?_
      rw [n32_lt (by omega) (by omega)]
      omega
    · rw [show p - (p - k) = k by omega]
      rcases go with g | ⟨b, g1, g2⟩
      · left
        rw [n32_eq (by omega) (by omega)] at g
        omega
      · right
        refine ⟨b, g1, ?_⟩
        rw [← g2]
        exact Int32.lt_irrefl
    · rw [if_neg hc, n32_sub (by omega)]
theorem x_quiet1 {N a p le m : Nat} {σ : aSt} {f : Nat → Nat → Int32} {lim : Nat → Int32} (hm : m ≤ 6) (hp : f a 1 = n32 p) (hl : ∀ b, b < m → f (a + 1) b = lim b) : ∀ (n b : Nat), m < n + b → b ≤ m → Ok (H_X1_quietSeconds_7 N n a (n32 m) (mxl lim (n32 le) b) (n32 b) (mk σ f)) (fun y σ' => σ' = mk σ f ∧ y = if n32 p ≤ mxl lim (n32 le) m then n32 0 else n32 p - mxl lim (n32 le) m) := by
  intro n
  induction n with
  | zero => intro b h1 h2; omega
  | succ n ih =>
    intro b h1 h2
    rw [H_X1_quietSeconds_7]
    unfold J_X1_quietSeconds_35 J_X1_quietSeconds_53
    by_cases hb : m ≤ b
    · with_reducible refine ok_ip (by first | assumption | omega | (simp (disch := omega) only [n32_of, neg_n32_1, n32_nat, n32_lt, n32_le, n32_eq, n32_add, n32_sub, n32_mul, n32_m1, m1_n32, n32_addm1, m1_lt, lt_m1, m1_le, le_m1, m1_add1, ofNat_n32, u2_self, u2_n, mk_I, mk_T, ne_eq, not_true_eq_false, not_false_eq_true, ]; first | done | omega)) ?_
      have eb : b = m := by omega
      subst eb
      rw [mk_I, hp]
      with_reducible refine ok_if (fun hc => ?_) (fun hc => ?_)
      · rw [if_pos hc]
        exact ok_some ⟨rfl, rfl⟩
      · rw [if_neg hc]
        exact ok_some ⟨rfl, rfl⟩
    · with_reducible refine ok_in (by first | assumption | omega | (simp (disch := omega) only [n32_of, neg_n32_1, n32_nat, n32_lt, n32_le, n32_eq, n32_add, n32_sub, n32_mul, n32_m1, m1_n32, n32_addm1, m1_lt, lt_m1, m1_le, le_m1, m1_add1, ofNat_n32, u2_self, u2_n, mk_I, mk_T, ne_eq, not_true_eq_false, not_false_eq_true, ]; first | done | omega)) ?_
      with_reducible refine ok_in (by first | assumption | omega | (simp (disch := omega) only [n32_of, neg_n32_1, n32_nat, n32_lt, n32_le, n32_eq, n32_add, n32_sub, n32_mul, n32_m1, m1_n32, n32_addm1, m1_lt, lt_m1, m1_le, le_m1, m1_add1, ofNat_n32, u2_self, u2_n, mk_I, mk_T, ne_eq, not_true_eq_false, not_false_eq_true, ]; first | done | omega)) ?_
      with_reducible refine ok_cO (by first | assumption | omega | (simp (disch := omega) only [n32_of, neg_n32_1, n32_nat, n32_lt, n32_le, n32_eq, n32_add, n32_sub, n32_mul, n32_m1, m1_n32, n32_addm1, m1_lt, lt_m1, m1_le, le_m1, m1_add1, ofNat_n32, u2_self, u2_n, mk_I, mk_T, ne_eq, not_true_eq_false, not_false_eq_true, ]; first | done | omega)) ?_
      have hlb := hl b (by omega)
      simp (disch := omega) only [n32_of, neg_n32_1, n32_nat, n32_lt, n32_le, n32_eq, n32_add, n32_sub, n32_mul, n32_m1, m1_n32, n32_addm1, m1_lt, lt_m1, m1_le, le_m1, m1_add1, ofNat_n32, u2_self, u2_n, mk_I, mk_T, hlb]
      rw [s_max, oB_s]
      exact ih (b + 1) (by omega) (by omega)
/-- so many quiet seconds go by -/
def gQuiet (q : Nat) (G : SG) : SG := (gsec G + q, gnx G, ggo G, gcl G, (fun c => if c < 3 ∧ gcl G c ≠ none then gcp G c - q else gcp G c), gha G, gsp G, gnl G, gre G, gst G)
def LA (f : Nat → Nat → Int32) (s : Nat) (K : SP) (G : SG) : Prop := ∀ c l, c < 3 → gcl G c = some l → ∀ b, b < hm (kD K) → f (s + 40 + 2 * c + 1) b = limX K G l b
def QT (K : SP) (G : SG) (q : Nat) : Prop := q ≤ 998 ∧ (∀ c l, c < 3 → gcl G c = some l → q < gcp G c ∧ ∀ j, j < q → kL K l < gcp G c - j ∧ ∀ b, b < hm (kD K) → limX K G l b < n32 (gcp G c - j)) ∧ ∃ c l, c < 3 ∧ gcl G c = some l ∧ (gcp G c - q ≤ kL K l ∨ ∃ b, b < hm (kD K) ∧ ¬ limX K G l b < n32 (gcp G c - q))
/-- the least of the clocks up to one -/
def QP (K : SP) (G : SG) (c q : Nat) : Prop := (∀ c' l, c' < c → gcl G c' = some l → ∃ q', q ≤ q' ∧ QS (limX K G l) (hm (kD K)) (kL K l) (gcp G c') q') ∧ ((q = 999 ∧ ∀ c', c' < c → gcl G c' = none) ∨ ∃ c' l, c' < c ∧ gcl G c' = some l ∧ QS (limX K G l) (hm (kD K)) (kL K l) (gcp G c') q)
theorem x_quietL {N s : Nat} {σ : aSt} {K : SP} {G : SG} {f : Nat → Nat → Int32} {Q : Unit → aSt → Prop} (hN : 1000 ≤ N) (hs : isS s) (hK : KOK K) (hG : GI K G) (hX : XB f σ s K G) (hL : LA f s K G) (hk : ∀ q, QP K G 3 q → Ok (H_X9_passQuietSeconds_52 N N s (n32 q) (n32 0) (mk σ f)) Q) : ∀ (n c q : Nat), 3 < n + c → c ≤ 3 → q ≤ 999 → QP K G c q → Ok (H_X9_passQuietSeconds_6 N n s (n32 q) (n32 c) (mk σ f)) Q := by
  have hs' := hs
  unfold isS at hs'
  have n24 := hK.1.1
  have m6 := hK.1.2.1
  have hnx := hG.1
  obtain ⟨x1, ⟨x2, x3, x4, x5⟩, x6, x7, x8, x9, x10⟩ := hX
  have e43 := x1.1.2.1
  intro n
  induction n with
  | zero => intro c q h1 h2; omega
  | succ n ih =>
    intro c q h1 h2 hq hP
    rw [H_X9_passQuietSeconds_6]
    unfold J_X9_passQuietSeconds_44
    by_cases hc : 3 ≤ c
    · with_reducible refine ok_ip (by first | assumption | omega | (simp (disch := omega) only [n32_of, neg_n32_1, n32_nat, n32_lt, n32_le, n32_eq, n32_add, n32_sub, n32_mul, n32_m1, m1_n32, n32_addm1, m1_lt, lt_m1, m1_le, le_m1, m1_add1, ofNat_n32, u2_self, u2_n, mk_I, mk_T, ne_eq, not_true_eq_false, not_false_eq_true, ]; first | done | omega)) ?_
      rw [show c = 3 by omega] at hP
      exact hk q hP
    · with_reducible refine ok_in (by first | assumption | omega | (simp (disch := omega) only [n32_of, neg_n32_1, n32_nat, n32_lt, n32_le, n32_eq, n32_add, n32_sub, n32_mul, n32_m1, m1_n32, n32_addm1, m1_lt, lt_m1, m1_le, le_m1, m1_add1, ofNat_n32, u2_self, u2_n, mk_I, mk_T, ne_eq, not_true_eq_false, not_false_eq_true, ]; first | done | omega)) ?_
      with_reducible refine ok_cO (by first | assumption | omega | (simp (disch := omega) only [n32_of, neg_n32_1, n32_nat, n32_lt, n32_le, n32_eq, n32_add, n32_sub, n32_mul, n32_m1, m1_n32, n32_addm1, m1_lt, lt_m1, m1_le, le_m1, m1_add1, ofNat_n32, u2_self, u2_n, mk_I, mk_T, ne_eq, not_true_eq_false, not_false_eq_true, ]; first | done | omega)) ?_
      rw [s_isEmpty, oB_s]
      have hcl := x6 c (by omega)
      cases hcc : gcl G c with
      | none =>
        rw [hcc] at hcl
        with_reducible refine ok_ip ?_ ?_
        · rw [bI_n0]
          simp (disch := omega) only [n32_of, neg_n32_1, n32_nat, n32_lt, n32_le, n32_eq, n32_add, n32_sub, n32_mul, n32_m1, m1_n32, n32_addm1, m1_lt, lt_m1, m1_le, le_m1, m1_add1, ofNat_n32, u2_self, u2_n, mk_I, mk_T, hcl]
          rfl
        simp (disch := omega) only [n32_of, neg_n32_1, n32_nat, n32_lt, n32_le, n32_eq, n32_add, n32_sub, n32_mul, n32_m1, m1_n32, n32_addm1, m1_lt, lt_m1, m1_le, le_m1, m1_add1, ofNat_n32, u2_self, u2_n, mk_I, mk_T, ]
        refine ih (c + 1) q (by omega) (by omega) hq ⟨fun c' l hc' hl => ?_, ?_⟩
        · have : c' ≠ c := fun e => by rw [e, hcc] at hl; cases hl
          exact hP.1 c' l (by omega) hl
        · rcases hP.2 with ⟨g1, g2⟩ | ⟨c', l, g1, g2⟩
          · refine Or.inl ⟨g1, fun c' hc' => ?_⟩
            by_cases e : c' = c
            · rw [e]; exact hcc
            · exact g2 c' (by omega)
          · exact Or.inr ⟨c', l, by omega, g2⟩
      | some l =>
        have hcl' : f (s + 40 + 2 * c) 0 = n32 l := by rw [hcl, hcc]; rfl
        have hlx := hG.2.2.1 c l (by omega) hcc
        have hkl := hK.2 l (by omega)
        obtain ⟨p1, p2⟩ := x7 c l (by omega) hcc
        with_reducible refine ok_in ?_ ?_
        · intro q
          rw [bI_n0] at q
          revert q
          simp (disch := omega) only [n32_of, neg_n32_1, n32_nat, n32_lt, n32_le, n32_eq, n32_add, n32_sub, n32_mul, n32_m1, m1_n32, n32_addm1, m1_lt, lt_m1, m1_le, le_m1, m1_add1, ofNat_n32, u2_self, u2_n, mk_I, mk_T, hcl']
          exact not_false
        with_reducible refine ok_cO (by first | assumption | omega | (simp (disch := omega) only [n32_of, neg_n32_1, n32_nat, n32_lt, n32_le, n32_eq, n32_add, n32_sub, n32_mul, n32_m1, m1_n32, n32_addm1, m1_lt, lt_m1, m1_le, le_m1, m1_add1, ofNat_n32, u2_self, u2_n, mk_I, mk_T, ne_eq, not_true_eq_false, not_false_eq_true, ]; first | done | omega)) ?_
        simp (disch := omega) only [n32_of, neg_n32_1, n32_nat, n32_lt, n32_le, n32_eq, n32_add, n32_sub, n32_mul, n32_m1, m1_n32, n32_addm1, m1_lt, lt_m1, m1_le, le_m1, m1_add1, ofNat_n32, u2_self, u2_n, mk_I, mk_T, e43]
        unfold F_X1_quietSeconds
        simp (disch := omega) only [n32_of, neg_n32_1, n32_nat, n32_lt, n32_le, n32_eq, n32_add, n32_sub, n32_mul, n32_m1, m1_n32, n32_addm1, m1_lt, lt_m1, m1_le, le_m1, m1_add1, ofNat_n32, u2_self, u2_n, mk_I, mk_T, p2]
        obtain ⟨q', hq', e'⟩ := qs_of (lim := limX K G l) (m := hm (kD K)) (le := kL K l) (p := gcp G c) hkl.1 hlx.2.2.1 hlx.2.2.2
        refine ok_bind (x_quiet1 (lim := limX K G l) (le := kL K l) m6 p1 (fun b hb => hL c l (by omega) hcc b hb) N 0 (by omega) (by omega)) (fun y σ1 hq1 => ?_)
        obtain ⟨rfl, rfl⟩ := hq1
        rw [e', s_min, oB_s]
        have hq98 := hq'.1
        have emin : (if n32 q' < n32 q then n32 q' else n32 q) = n32 (min q' q) := by
          by_cases hlt : q' < q
          · rw [if_pos (by first | assumption | omega | (simp (disch := omega) only [n32_of, neg_n32_1, n32_nat, n32_lt, n32_le, n32_eq, n32_add, n32_sub, n32_mul, n32_m1, m1_n32, n32_addm1, m1_lt, lt_m1, m1_le, le_m1, m1_add1, ofNat_n32, u2_self, u2_n, mk_I, mk_T, ne_eq, not_true_eq_false, not_false_eq_true, ]; first | done | omega)), Nat.min_eq_left (by omega)]
          · rw [if_neg (by first | assumption | omega | (simp (disch := omega) only [n32_of, neg_n32_1, n32_nat, n32_lt, n32_le, n32_eq, n32_add, n32_sub, n32_mul, n32_m1, m1_n32, n32_addm1, m1_lt, lt_m1, m1_le, le_m1, m1_add1, ofNat_n32, u2_self, u2_n, mk_I, mk_T, ne_eq, not_true_eq_false, not_false_eq_true, ]; first | done | omega)), Nat.min_eq_right (by omega)]
        rw [emin]
        refine ih (c + 1) (min q' q) (by omega) (by omega) (by omega) ⟨fun c' l' hc' hl' => ?_, ?_⟩
        · by_cases e : c' = c
          · subst e
            rw [hcc] at hl'
            cases hl'
            exact ⟨q', by omega, hq'⟩
          · obtain ⟨q'', g1, g2⟩ := hP.1 c' l' (by omega) hl'
            exact ⟨q'', by omega, g2⟩
        · by_cases hlt : q' ≤ q
          · rw [Nat.min_eq_left hlt]
            exact Or.inr ⟨c, l, by omega, hcc, hq'⟩
          · rw [Nat.min_eq_right (by omega)]
            rcases hP.2 with ⟨g1, g2⟩ | ⟨c', l', g1, g2⟩
            · omega
            · exact Or.inr ⟨c', l', by omega, g2⟩
theorem QP_QT {K : SP} {G : SG} {q : Nat} (hG : GI K G) (hoc : ∃ c, c < 3 ∧ gcl G c ≠ none) (h : QP K G 3 q) : QT K G q := by
  obtain ⟨h1, h2⟩ := h
  have h3 : ∃ c' l, c' < 3 ∧ gcl G c' = some l ∧ QS (limX K G l) (hm (kD K)) (kL K l) (gcp G c') q := by
    rcases h2 with ⟨g1, g2⟩ | g
    · obtain ⟨c, hc, hne⟩ := hoc
      exact absurd (g2 c hc) hne
    · exact g
  obtain ⟨c, l, hc, hl, hq⟩ := h3
  refine ⟨hq.1, fun c' l' hc' hl' => ?_, c, l, hc, hl, hq.2.2.2⟩
  obtain ⟨q', g1, g2⟩ := h1 c' l' hc' hl'
  exact ⟨by have := g2.2.1; omega, fun j hj => g2.2.2.1 j (by omega)⟩
def gQ1 (q c0 : Nat) (G : SG) (c : Nat) : Nat := if c < c0 ∧ gcl G c ≠ none then gcp G c - q else gcp G c
theorem x_quietS {N s q : Nat} {σ : aSt} {K : SP} {G : SG} {f0 : Nat → Nat → Int32} (hs : isS s) (hK : KOK K) (hG : GI K G) (hsec : gsec G < 100000) (hq : QT K G q) (hX : XB f0 σ s K G) : ∀ (n c : Nat) (f : Nat → Nat → Int32), 3 < n + c → c ≤ 3 → (∀ a k, ¬ (k = 1 ∧ (a = s + 40 ∨ a = s + 42 ∨ a = s + 44)) → f a k = f0 a k) → (∀ c', c' < 3 → gcl G c' ≠ none → f (s + 40 + 2 * c') 1 = n32 (gQ1 q c G c')) → Ok (H_X9_passQuietSeconds_52 N n s (n32 q) (n32 c) (mk σ f)) (fun _ σ' => ∃ f', σ' = mk σ f' ∧ (∀ a k, ¬ (k = 1 ∧ (a = s + 40 ∨ a = s + 42 ∨ a = s + 44)) → ¬ (a = s ∧ k = 6) → f' a k = f0 a k) ∧ f' s 6 = n32 (gsec G + q) ∧ ∀ c', c' < 3 → gcl G c' ≠ none → f' (s + 40 + 2 * c') 1 = n32 (gQ1 q 3 G c')) := by
  have hs' := hs
  unfold isS at hs'
  have n24 := hK.1.1
  have hnx := hG.1
  obtain ⟨x1, ⟨x2, x3, x4, x5⟩, x6, x7, x8, x9, x10⟩ := hX
  intro n
  induction n with
  | zero => intro c f h1 h2; omega
  | succ n ih =>
    intro c f h1 h2 hf hp
    have e6 := (hf s 6 (by omega)).trans x3
    rw [H_X9_passQuietSeconds_52]
    unfold J_X9_passQuietSeconds_84
    by_cases hc : 3 ≤ c
    · with_reducible refine ok_ip (by first | assumption | omega | (simp (disch := omega) only [n32_of, neg_n32_1, n32_nat, n32_lt, n32_le, n32_eq, n32_add, n32_sub, n32_mul, n32_m1, m1_n32, n32_addm1, m1_lt, lt_m1, m1_le, le_m1, m1_add1, ofNat_n32, u2_self, u2_n, mk_I, mk_T, ne_eq, not_true_eq_false, not_false_eq_true, ]; first | done | omega)) ?_
      repeat (first | with_reducible refine ok_W ?_ | with_reducible refine ok_cO (by first | assumption | omega | (simp (disch := omega) only [n32_of, neg_n32_1, n32_nat, n32_lt, n32_le, n32_eq, n32_add, n32_sub, n32_mul, n32_m1, m1_n32, n32_addm1, m1_lt, lt_m1, m1_le, le_m1, m1_add1, ofNat_n32, u2_self, u2_n, mk_I, mk_T, ne_eq, not_true_eq_false, not_false_eq_true, ]; first | done | omega)) ?_ | with_reducible refine ok_ip (by first | assumption | omega | (simp (disch := omega) only [n32_of, neg_n32_1, n32_nat, n32_lt, n32_le, n32_eq, n32_add, n32_sub, n32_mul, n32_m1, m1_n32, n32_addm1, m1_lt, lt_m1, m1_le, le_m1, m1_add1, ofNat_n32, u2_self, u2_n, mk_I, mk_T, ne_eq, not_true_eq_false, not_false_eq_true, ]; first | done | omega)) ?_ | with_reducible refine ok_in (by first | assumption | omega | (simp (disch := omega) only [n32_of, neg_n32_1, n32_nat, n32_lt, n32_le, n32_eq, n32_add, n32_sub, n32_mul, n32_m1, m1_n32, n32_addm1, m1_lt, lt_m1, m1_le, le_m1, m1_add1, ofNat_n32, u2_self, u2_n, mk_I, mk_T, ne_eq, not_true_eq_false, not_false_eq_true, ]; first | done | omega)) ?_)
      rw [show c = 3 by omega] at hp
      simp (disch := omega) only [n32_of, neg_n32_1, n32_nat, n32_lt, n32_le, n32_eq, n32_add, n32_sub, n32_mul, n32_m1, m1_n32, n32_addm1, m1_lt, lt_m1, m1_le, le_m1, m1_add1, ofNat_n32, u2_self, u2_n, mk_I, mk_T, e6]
      refine ok_some ⟨_, rfl, fun a k h1 h2 => ?_, ?_, fun c' hc' hne => ?_⟩
      · rw [u2_n (by omega)]
        exact hf a k h1
      · simp (disch := omega) only [n32_of, neg_n32_1, n32_nat, n32_lt, n32_le, n32_eq, n32_add, n32_sub, n32_mul, n32_m1, m1_n32, n32_addm1, m1_lt, lt_m1, m1_le, le_m1, m1_add1, ofNat_n32, u2_self, u2_n, mk_I, mk_T, ]
      · simp (disch := omega) only [n32_of, neg_n32_1, n32_nat, n32_lt, n32_le, n32_eq, n32_add, n32_sub, n32_mul, n32_m1, m1_n32, n32_addm1, m1_lt, lt_m1, m1_le, le_m1, m1_add1, ofNat_n32, u2_self, u2_n, mk_I, mk_T, ]
        exact hp c' hc' hne
    · with_reducible refine ok_in (by first | assumption | omega | (simp (disch := omega) only [n32_of, neg_n32_1, n32_nat, n32_lt, n32_le, n32_eq, n32_add, n32_sub, n32_mul, n32_m1, m1_n32, n32_addm1, m1_lt, lt_m1, m1_le, le_m1, m1_add1, ofNat_n32, u2_self, u2_n, mk_I, mk_T, ne_eq, not_true_eq_false, not_false_eq_true, ]; first | done | omega)) ?_
      with_reducible refine ok_cO (by first | assumption | omega | (simp (disch := omega) only [n32_of, neg_n32_1, n32_nat, n32_lt, n32_le, n32_eq, n32_add, n32_sub, n32_mul, n32_m1, m1_n32, n32_addm1, m1_lt, lt_m1, m1_le, le_m1, m1_add1, ofNat_n32, u2_self, u2_n, mk_I, mk_T, ne_eq, not_true_eq_false, not_false_eq_true, ]; first | done | omega)) ?_
      rw [s_isEmpty, oB_s]
      have hcl := (hf (s + 40 + 2 * c) 0 (by omega)).trans (x6 c (by omega))
      cases hcc : gcl G c with
      | none =>
        rw [hcc] at hcl
        with_reducible refine ok_ip ?_ ?_
        · rw [bI_n0]
          simp (disch := omega) only [n32_of, neg_n32_1, n32_nat, n32_lt, n32_le, n32_eq, n32_add, n32_sub, n32_mul, n32_m1, m1_n32, n32_addm1, m1_lt, lt_m1, m1_le, le_m1, m1_add1, ofNat_n32, u2_self, u2_n, mk_I, mk_T, hcl]
          rfl
        simp (disch := omega) only [n32_of, neg_n32_1, n32_nat, n32_lt, n32_le, n32_eq, n32_add, n32_sub, n32_mul, n32_m1, m1_n32, n32_addm1, m1_lt, lt_m1, m1_le, le_m1, m1_add1, ofNat_n32, u2_self, u2_n, mk_I, mk_T, ]
        refine ih (c + 1) f (by omega) (by omega) hf (fun c' hc' hne => ?_)
        rw [hp c' hc' hne]
        unfold gQ1
        have : c' ≠ c := fun e => hne (by rw [e]; exact hcc)
        by_cases e : c' < c
        · rw [if_pos ⟨e, hne⟩, if_pos ⟨by omega, hne⟩]
        · rw [if_neg (fun z => e z.1), if_neg (fun z => by omega)]
      | some l =>
        have hcl' : f (s + 40 + 2 * c) 0 = n32 l := by rw [hcl, hcc]; rfl
        have hlx := hG.2.2.1 c l (by omega) hcc
        have hpc := hp c (by omega) (by rw [hcc]; simp)
        have hq1 := (hq.2.1 c l (by omega) hcc).1
        have e0 : gQ1 q c G c = gcp G c := by
          unfold gQ1
          rw [if_neg (fun z => by omega)]
        rw [e0] at hpc
        with_reducible refine ok_in ?_ ?_
        · intro q
          rw [bI_n0] at q
          revert q
          simp (disch := omega) only [n32_of, neg_n32_1, n32_nat, n32_lt, n32_le, n32_eq, n32_add, n32_sub, n32_mul, n32_m1, m1_n32, n32_addm1, m1_lt, lt_m1, m1_le, le_m1, m1_add1, ofNat_n32, u2_self, u2_n, mk_I, mk_T, hcl']
          exact not_false
        repeat (first | with_reducible refine ok_W ?_ | with_reducible refine ok_cO (by first | assumption | omega | (simp (disch := omega) only [n32_of, neg_n32_1, n32_nat, n32_lt, n32_le, n32_eq, n32_add, n32_sub, n32_mul, n32_m1, m1_n32, n32_addm1, m1_lt, lt_m1, m1_le, le_m1, m1_add1, ofNat_n32, u2_self, u2_n, mk_I, mk_T, ne_eq, not_true_eq_false, not_false_eq_true, ]; first | done | omega)) ?_ | with_reducible refine ok_ip (by first | assumption | omega | (simp (disch := omega) only [n32_of, neg_n32_1, n32_nat, n32_lt, n32_le, n32_eq, n32_add, n32_sub, n32_mul, n32_m1, m1_n32, n32_addm1, m1_lt, lt_m1, m1_le, le_m1, m1_add1, ofNat_n32, u2_self, u2_n, mk_I, mk_T, ne_eq, not_true_eq_false, not_false_eq_true, ]; first | done | omega)) ?_ | with_reducible refine ok_in (by first | assumption | omega | (simp (disch := omega) only [n32_of, neg_n32_1, n32_nat, n32_lt, n32_le, n32_eq, n32_add, n32_sub, n32_mul, n32_m1, m1_n32, n32_addm1, m1_lt, lt_m1, m1_le, le_m1, m1_add1, ofNat_n32, u2_self, u2_n, mk_I, mk_T, ne_eq, not_true_eq_false, not_false_eq_true, ]; first | done | omega)) ?_)
        simp (disch := omega) only [n32_of, neg_n32_1, n32_nat, n32_lt, n32_le, n32_eq, n32_add, n32_sub, n32_mul, n32_m1, m1_n32, n32_addm1, m1_lt, lt_m1, m1_le, le_m1, m1_add1, ofNat_n32, u2_self, u2_n, mk_I, mk_T, hpc]
        refine ih (c + 1) _ (by omega) (by omega) (fun a k h1 => ?_) (fun c' hc' hne => ?_)
        · rw [u2_n (by omega)]
          exact hf a k h1
        · unfold gQ1
          by_cases e : c' = c
          · subst e
            rw [if_pos ⟨by omega, hne⟩, u2_self]
          · rw [u2_n (by omega), hp c' hc' hne]
            unfold gQ1
            by_cases e2 : c' < c
            · rw [if_pos ⟨e2, hne⟩, if_pos ⟨by omega, hne⟩]
            · rw [if_neg (fun z => e2 z.1), if_neg (fun z => by omega)]
theorem x_quiet {N s : Nat} {σ : aSt} {K : SP} {G : SG} {f : Nat → Nat → Int32} (hN : 1000 ≤ N) (hs : isS s) (hK : KOK K) (hG : GI K G) (hsec : gsec G < 100000) (hoc : ∃ c, c < 3 ∧ gcl G c ≠ none) (hX : XB f σ s K G) (hL : LA f s K G) : Ok (F_X9_passQuietSeconds N s (mk σ f)) (fun _ σ' => ∃ q f', σ' = mk σ f' ∧ QT K G q ∧ eqS (scXS s) f f' ∧ XB f' σ s K (gQuiet q G) ∧ (∀ a k, k ≠ 1 → ¬ (a = s ∧ k = 6) → f' a k = f a k) ∧ ∀ c b, c < 3 → f' (s + 40 + 2 * c + 1) b = f (s + 40 + 2 * c + 1) b) := by
  have hs' := hs
  unfold isS at hs'
  have n24 := hK.1.1
  have m6 := hK.1.2.1
  have hnx := hG.1
  unfold F_X9_passQuietSeconds
  refine x_quietL hN hs hK hG hX hL (fun q hqp => ?_) N 0 999 (by omega) (by omega) (by omega) ⟨fun c' l hc' => absurd hc' (Nat.not_lt_zero _), Or.inl ⟨rfl, fun c' hc' => absurd hc' (Nat.not_lt_zero _)⟩⟩
  have hq := QP_QT hG hoc hqp
  refine ok_mono (x_quietS hs hK hG hsec hq hX N 0 f (by omega) (by omega) (fun _ _ _ => rfl) (fun c' hc' hne => ?_)) (fun _ σ' hz => ?_)
  · cases hcc : gcl G c' with
    | none => exact absurd hcc hne
    | some l =>
      rw [(hX.2.2.2.1 c' l hc' hcc).1]
      unfold gQ1
      rw [if_neg (fun z => absurd z.1 (Nat.not_lt_zero _))]
  · obtain ⟨f', rfl, z1, z2, z3⟩ := hz
    have e : ∀ a k, k ≠ 1 → ¬ (a = s ∧ k = 6) → f' a k = f a k := fun a k h1 h2 => z1 a k (fun q => h1 q.1) h2
    have e1 : ∀ a, a ≠ s + 40 → a ≠ s + 42 → a ≠ s + 44 → a ≠ s → ∀ k, f' a k = f a k := fun a h1 h2 h3 h4 k => z1 a k (by omega) (by omega)
    have heS : eqS (scXS s) f f' := fun a k ha => z1 a k (by omega) (by omega)
    refine ⟨q, f', rfl, hq, heS, ?_, e, fun c b hc => e1 _ (by omega) (by omega) (by omega) (by omega) b⟩
    obtain ⟨x1, ⟨x2, x3, x4, x5⟩, x6, x7, x8, x9, x10⟩ := hX
    refine ⟨XC_S hs hK.1 x1 heS, ⟨(e _ _ (by omega) (by omega)).trans x2, z2, (e _ _ (by omega) (by omega)).trans x4, (e _ _ (by omega) (by omega)).trans x5⟩, fun c hc => (e _ _ (by omega) (by omega)).trans (x6 c hc), fun c l hc hl => ⟨?_, ?_⟩, fun b hb => ?_, fun l hl => ?_, fun l r hr => ?_⟩
    · have hl' : gcl G c = some l := hl
      rw [z3 c hc (by rw [hl']; simp)]
      rfl
    · have hl' : gcl G c = some l := hl
      exact (e _ _ (by omega) (by omega)).trans (x7 c l hc hl').2
    · have := x8 b hb
      exact ⟨⟨(e1 _ (by omega) (by omega) (by omega) (by omega) _).trans this.1.1, fun k hk => (e1 _ (by omega) (by omega) (by omega) (by omega) _).trans (this.1.2 k hk)⟩, (e1 _ (by omega) (by omega) (by omega) (by omega) _).trans this.2.1, (e1 _ (by omega) (by omega) (by omega) (by omega) _).trans this.2.2⟩
    · have := x9 l hl
      exact ⟨(e1 _ (by omega) (by omega) (by omega) (by omega) _).trans this.1, (e1 _ (by omega) (by omega) (by omega) (by omega) _).trans this.2.1, (e1 _ (by omega) (by omega) (by omega) (by omega) _).trans this.2.2.1, (e1 _ (by omega) (by omega) (by omega) (by omega) _).trans this.2.2.2⟩
    · have hl24 : l < gnx G := Nat.lt_of_not_le (fun q => by have := hG.2.2.2.2.2.1 l q; rw [show gre G l = some r from hr] at this; cases this)
      have := x10 l r hr
      exact ⟨(e1 _ (by omega) (by omega) (by omega) (by omega) _).trans this.1, (e1 _ (by omega) (by omega) (by omega) (by omega) _).trans this.2.1, (e1 _ (by omega) (by omega) (by omega) (by omega) _).trans this.2.2.1, (e1 _ (by omega) (by omega) (by omega) (by omega) _).trans this.2.2.2⟩
