/-! ===== the reference reads a tape ===== -/
theorem RLs_get {f : pln} : ∀ (rl : List Rl) (i p : Nat), RLs f i p rl → segR f p (frl rl) → p + (frl rl).length ≤ 7000 → ∀ k q, rl[k]? = some q → RLq f (i + k) q := by
  intro rl
  induction rl with
  | nil => intro i p _ _ _ k q h; cases h
  | cons x rl ih =>
    intro i p h hs hl k q hq
    rw [frl] at hs hl
    rw [List.length_append, List.length_append] at hl
    obtain ⟨s1, s2⟩ := segR_app hs
    obtain ⟨s3, s4⟩ := segR_app s2
    cases k with
    | zero =>
      cases hq
      obtain ⟨⟨h1, h2, h3, h4, h5⟩, h6⟩ := h
      exact ⟨p, h1, h2, h3, h4, h5, s1, s3, by omega⟩
    | succ k =>
      have := ih (i + 1) _ h.2 s4 (by omega) k q hq
      rw [show i + 1 + k = i + (k + 1) by omega] at this
      exact this
theorem RRs_get {pg : Nat} {f : pln} : ∀ (rs : List Ru) (r p a : Nat), RRs pg f r p a rs → segR f p (frc rs) → p + (frc rs).length ≤ 7000 → a + nrl rs ≤ 200 → ∀ i u, rs[i]? = some u → RR f pg (r + i) u := by
  intro rs
  induction rs with
  | nil => intro r p a _ _ _ _ i u h; cases h
  | cons x rs ih =>
    intro r p a h hs hl hn i u hu
    rw [frc] at hs hl
    rw [List.length_append, List.length_append] at hl
    rw [nrl] at hn
    obtain ⟨s1, s2⟩ := segR_app hs
    obtain ⟨s3, s4⟩ := segR_app s2
    cases i with
    | zero =>
      cases hu
      obtain ⟨⟨h1, h2, h3, h4, h5⟩, h6, h7⟩ := h
      exact ⟨p, a, h1, h2, h3, s1, by omega, h4, h5, by omega, RLs_get _ _ _ h6 s3 (by omega)⟩
    | succ i =>
      have := ih (r + 1) _ _ h.2.2 s4 (by omega) (by omega) i u hu
      rw [show r + 1 + i = r + (i + 1) by omega] at this
      exact this
theorem rpg_of {pg : Nat} {f : pln} {rs : List Ru} (hpg : pg < 14) (h1 : RRs pg f 0 (500 * pg) 0 rs) (h2 : segR f (500 * pg) (frc rs)) (h3 : f 244 pg = n32 rs.length) (h4 : rs.length ≤ 20) (h5 : nrl rs ≤ 200) (h6 : (frc rs).length ≤ 450) : RPg f pg rs := by
  intro f' ⟨a1, a2, a3, a4⟩
  refine ⟨a1.trans h3, fun i u hu => ?_⟩
  have := RRs_get rs 0 (500 * pg) 0 (RRs_cg _ _ _ _ h1 (fun c k q1 q2 q3 q4 => a2 c k q1 q2 (by omega) (by omega)) (fun c k q1 q2 q3 q4 => a3 c k q1 q2 (by omega) (by omega))) (segR_in h2 (fun a k q1 q2 q3 => a4 a k (by omega) (by omega) (by omega) (by omega))) (by omega) (by omega) i u hu
  rw [Nat.zero_add] at this
  exact this
def rOut (pg w lw : Nat) (f f' : pln) (O : Nat × Nat × List Ru) (y : Int32) : Prop := y = n32 O.1 ∧ f' 235 17 = (if O.1 = 0 then -1 else n32 O.2.1) ∧ (O.1 = 0 → RPg f' pg O.2.2 ∧ f' 243 w = n32 (1 - lw)) ∧ (O.1 ≠ 0 → f' 243 w = f 243 w)
def eqD (pg w : Nat) (f f' : pln) : Prop := ∀ a k, (a ≠ 235 ∨ (k ≠ 2 ∧ k ≠ 4 ∧ k ≠ 10 ∧ k ≠ 11 ∧ k ≠ 12 ∧ k ≠ 13 ∧ k ≠ 14 ∧ k ≠ 15 ∧ k ≠ 17 ∧ k ≠ 19 ∧ k ≠ 32 ∧ k ≠ 36)) → a ≠ 258 → (a < 237 ∨ 240 < a) → (a ≠ 243 ∨ k ≠ w) → ((a ≠ 256 ∧ a ≠ 257) ∨ k < 500 * pg ∨ 500 * pg + 500 ≤ k) → ((a ≠ 244 ∧ a ≠ 250) ∨ k ≠ pg) → ((a < 245 ∨ 249 < a) ∨ k < 20 * pg ∨ 20 * pg + 20 ≤ k) → ((a < 251 ∨ 255 < a) ∨ k < 200 * pg ∨ 200 * pg + 200 ≤ k) → f' a k = f a k
theorem eqD_R {pg w : Nat} {f f' : pln} (h : eqR pg f f') : eqD pg w f f' := fun a k h1 h2 _ _ h5 h6 h7 h8 => h a k (by omega) h2 h5 h6 h7 h8
theorem eqD_tr {pg w : Nat} {f g h : pln} (e1 : eqD pg w f g) (e2 : eqD pg w g h) : eqD pg w f h := fun a k q1 q2 q3 q4 q5 q6 q7 q8 => (e2 a k q1 q2 q3 q4 q5 q6 q7 q8).trans (e1 a k q1 q2 q3 q4 q5 q6 q7 q8)
section RRD
variable {N pg len w lw : Nat} {b : Nat → Nat} {σ : aSt} {O : Nat × Nat × List Ru}
theorem r_155F {f : pln} (hF : RF O f) (hw : w < 7) : Ok (J_X12_read_155 N (n32 w) (mk σ f)) (fun y σ' => ∃ f', σ' = mk σ f' ∧ eqD pg w f f' ∧ f' 235 2 = f 235 2 ∧ rOut pg w lw f f' O y) := by
  have hO := hF.2.1
  unfold J_X12_read_155 J_X12_read_171
  refine ok_in (RF_ne hF).1 ?_
  have hF2 : RF O (u2 f 235 17 (aI (mk σ f) 235 14)) := RF_E hF (u2_n (by omega)) (u2_n (by omega))
  repeat (first | with_reducible refine ok_W ?_ | with_reducible refine ok_cO (by first | assumption | omega | (simp (disch := omega) only [n32_of, neg_n32_1, n32_nat, n32_lt, n32_le, n32_eq, n32_add, n32_sub, n32_mul, n32_m1, m1_n32, n32_addm1, m1_lt, lt_m1, m1_le, le_m1, m1_add1, ofNat_n32, u2_self, u2_n, mk_I, mk_T, ne_eq, not_true_eq_false, not_false_eq_true, ]; first | done | omega)) ?_ | with_reducible refine ok_ip (by first | assumption | omega | (simp (disch := omega) only [n32_of, neg_n32_1, n32_nat, n32_lt, n32_le, n32_eq, n32_add, n32_sub, n32_mul, n32_m1, m1_n32, n32_addm1, m1_lt, lt_m1, m1_le, le_m1, m1_add1, ofNat_n32, u2_self, u2_n, mk_I, mk_T, ne_eq, not_true_eq_false, not_false_eq_true, ]; first | done | omega)) ?_ | with_reducible refine ok_in (by first | assumption | omega | (simp (disch := omega) only [n32_of, neg_n32_1, n32_nat, n32_lt, n32_le, n32_eq, n32_add, n32_sub, n32_mul, n32_m1, m1_n32, n32_addm1, m1_lt, lt_m1, m1_le, le_m1, m1_add1, ofNat_n32, u2_self, u2_n, mk_I, mk_T, ne_eq, not_true_eq_false, not_false_eq_true, ]; first | done | omega)) ?_)
  refine ok_in (RF_ne hF2).1 ?_
  refine ok_some ⟨_, rfl, fun a j q1 q2 q3 q4 q5 q6 q7 q8 => u2_n (by omega), u2_n (by omega), hF2.1, ?_, fun q => by omega, fun _ => u2_n (by omega)⟩
  rw [u2_self, if_neg (by omega)]
  exact hF.2.2
theorem r_133 (hN : 1000 ≤ N) (hpg : pg < 14) (hw : w < 7) (hlw : lw < 2) : ∀ (n k : Nat) (C : CX) (f : pln), 402 - k ≤ n → f 243 w = n32 lw → TR b len f → PI k 0 0 C [] [] → (∀ j, j < k → tTk b len j ≠ 27) → run (tTk b len) (tPl b len) (401 - k) k 0 0 C [] [] = O → rG f k 0 → rCo pg f (rCd C []) → RQ pg f C 0 0 → Ok (H_X12_read_133 N n (n32 w) (mk σ f)) (fun y σ' => ∃ f', σ' = mk σ f' ∧ eqD pg w f f' ∧ f' 235 2 = f 235 2 ∧ rOut pg w lw f f' O y) := by
  intro n
  induction n with
  | zero => intro k C f hn hl hTR hP; have := hP.1; omega
  | succ n ih =>
    intro k C f hn hl hTR hP hj hrun hG hC hQ
    have b3 := hP.1
    obtain ⟨n, rfl⟩ : ∃ n', n = n' + 1 := ⟨n - 1, by omega⟩
    obtain ⟨x, x1, x2, x3, x4, x5, -⟩ := r_tok hTR b3 hj
    obtain ⟨g11, g12, g13⟩ := hG
    rw [H_X12_read_133]
    refine ok_in (by first | assumption | omega | (simp (disch := omega) only [n32_of, neg_n32_1, n32_nat, n32_lt, n32_le, n32_eq, n32_add, n32_sub, n32_mul, n32_m1, m1_n32, n32_addm1, m1_lt, lt_m1, m1_le, le_m1, m1_add1, ofNat_n32, u2_self, u2_n, mk_I, mk_T, ne_eq, not_true_eq_false, not_false_eq_true, g13]; first | done | omega)) ?_
    rw [show (0 : Int32) = n32 0 from rfl, r_is g13 g11 b3 x1 x4 (by omega)]
    refine ok_oB (ok_some ?_)
    by_cases h27 : tTk b len k = 27
    · refine ok_ipi (yz (x5.mpr h27)) ?_
      rw [show 401 - k = (401 - (k + 1)) + 1 by omega, run_27 (by omega) h27] at hrun
      subst hrun
      unfold J_X12_read_155 J_X12_read_171
      with_reducible refine ok_ip (by first | assumption | omega | (simp (disch := omega) only [n32_of, neg_n32_1, n32_nat, n32_lt, n32_le, n32_eq, n32_add, n32_sub, n32_mul, n32_m1, m1_n32, n32_addm1, m1_lt, lt_m1, m1_le, le_m1, m1_add1, ofNat_n32, u2_self, u2_n, mk_I, mk_T, ne_eq, not_true_eq_false, not_false_eq_true, g13]; first | done | omega)) ?_
      repeat (first | with_reducible refine ok_W ?_ | with_reducible refine ok_cO (by first | assumption | omega | (simp (disch := omega) only [n32_of, neg_n32_1, n32_nat, n32_lt, n32_le, n32_eq, n32_add, n32_sub, n32_mul, n32_m1, m1_n32, n32_addm1, m1_lt, lt_m1, m1_le, le_m1, m1_add1, ofNat_n32, u2_self, u2_n, mk_I, mk_T, ne_eq, not_true_eq_false, not_false_eq_true, g13]; first | done | omega)) ?_ | with_reducible refine ok_ip (by first | assumption | omega | (simp (disch := omega) only [n32_of, neg_n32_1, n32_nat, n32_lt, n32_le, n32_eq, n32_add, n32_sub, n32_mul, n32_m1, m1_n32, n32_addm1, m1_lt, lt_m1, m1_le, le_m1, m1_add1, ofNat_n32, u2_self, u2_n, mk_I, mk_T, ne_eq, not_true_eq_false, not_false_eq_true, g13]; first | done | omega)) ?_ | with_reducible refine ok_in (by first | assumption | omega | (simp (disch := omega) only [n32_of, neg_n32_1, n32_nat, n32_lt, n32_le, n32_eq, n32_add, n32_sub, n32_mul, n32_m1, m1_n32, n32_addm1, m1_lt, lt_m1, m1_le, le_m1, m1_add1, ofNat_n32, u2_self, u2_n, mk_I, mk_T, ne_eq, not_true_eq_false, not_false_eq_true, g13]; first | done | omega)) ?_)
      simp (disch := omega) only [n32_of, neg_n32_1, n32_nat, n32_lt, n32_le, n32_eq, n32_add, n32_sub, n32_mul, n32_m1, m1_n32, n32_addm1, m1_lt, lt_m1, m1_le, le_m1, m1_add1, ofNat_n32, u2_self, u2_n, mk_I, mk_T, hl]
      obtain ⟨v0, l0⟩ := hP.2.1.2.2.2.1 rfl
      have e0 := hP.2.1.2.2.2.2.1 (by omega)
      have eCd : rCd C [] = frc (xR C) := by
        unfold rCd
        rw [v0, l0, e0]
        simp [frl]
      rw [eCd] at hC
      have tl1 := nrl_le (xR C)
      have tl3 := frc_len (xR C)
      have tot0 := hP.2.2.2.2
      have eT : tot 0 C [] [] = wtr (xR C) + (xV C).length + wl2 (xL C) + 0 + (xE C).length + 0 + 0 := rfl
      refine ok_some ⟨_, rfl, fun a j q1 q2 q3 q4 q5 q6 q7 q8 => ?_, ?_, rfl, ?_, fun _ => ⟨?_, ?_⟩, fun q => absurd rfl q⟩
      · rw [u2_n (by omega), u2_n (by omega)]
      · rw [u2_n (by omega), u2_n (by omega)]
      · rw [u2_n (by omega), u2_self, if_pos rfl]
        rfl
      · show RPg _ pg (xR C)
        refine RPg_V (rpg_of hpg hQ.2.1 hC.2 hQ.1.1 hP.2.1.1.2.2.1 (by omega) (by omega)) (fun a j q1 q2 => ?_)
        rw [u2_n (by omega), u2_n (by omega)]
      · rw [u2_self]
    · refine ok_ini (fun q => q (nz (by omega))) ?_
      refine ok_oB (ok_mono (r_tell hN hpg hTR hP hj hrun h27 ⟨g11, g12, g13⟩ hC hQ) (fun u σ' hq => ?_))
      obtain ⟨f1, rfl, e1, hq⟩ := hq
      have e2 : f1 235 2 = f 235 2 := e1 _ _ (by omega) (by omega) (by omega) (by omega) (by omega) (by omega)
      have e243 : f1 243 w = f 243 w := e1 _ _ (by omega) (by omega) (by omega) (by omega) (by omega) (by omega)
      rcases hq with hF | ⟨k1, C1, lk, P1, j1, run1, G1, C1', Q1⟩
      · rw [H_X12_read_133]
        refine ok_ip (RF_ne hF).2 ?_
        refine ok_mono (r_155F (pg := pg) (lw := lw) hF hw) (fun y σ' hq => ?_)
        obtain ⟨f2, q1, q2, q3, q4, q5, q6, q7⟩ := hq
        exact ⟨f2, q1, eqD_tr (eqD_R e1) q2, q3.trans e2, q4, q5, q6, fun q => (q7 q).trans e243⟩
      · refine ok_mono (ih k1 C1 f1 (by omega) (e243.trans hl) (TR_R hTR e1) P1 j1 run1 G1 C1' Q1) (fun y σ' hq => ?_)
        obtain ⟨f2, q1, q2, q3, q4, q5, q6, q7⟩ := hq
        exact ⟨f2, q1, eqD_tr (eqD_R e1) q2, q3.trans e2, q4, q5, q6, fun q => (q7 q).trans e243⟩
theorem byte_and (x : Int32) : vp_nar .byte x &&& 255 = x &&& 255 := by
  show x.toInt8.toInt32 &&& 255 = x &&& 255
  apply Int32.toBitVec.inj
  rw [Int32.toBitVec_and, Int32.toBitVec_and]
  apply BitVec.eq_of_toNat_eq
  rw [BitVec.toNat_and, BitVec.toNat_and]
  have e : (255 : Int32).toBitVec.toNat = 2 ^ 8 - 1 := by decide
  rw [e, Nat.and_two_pow_sub_one_eq_mod, Nat.and_two_pow_sub_one_eq_mod]
  have e2 : x.toInt8.toInt32.toBitVec = (x.toBitVec.signExtend 8).signExtend 32 := rfl
  rw [e2, BitVec.toNat_signExtend, BitVec.signExtend_eq_setWidth_of_le _ (by omega)]
  rw [BitVec.toNat_setWidth, BitVec.toNat_setWidth]
  have h : x.toBitVec.toNat < 2 ^ 32 := x.toBitVec.isLt
  generalize x.toBitVec.toNat = m at h
  split <;> omega
/-- all of read() behind the copying -/
theorem r_copy (hlen : len ≤ 2000) : ∀ (n j : Nat) (f : pln) {Q : Int32 → aSt → Prop} {x1 : Int32}, len - j < n → j ≤ len → f 235 4 = n32 len → (∀ i, i < j → f 237 i &&& 255 = f 236 i &&& 255) → (∀ f', (∀ a k, a ≠ 237 → f' a k = f a k) → (∀ i, i < len → f' 237 i &&& 255 = f' 236 i &&& 255) → ∀ n', Ok (H_X12_read_26 N (n' + 1) x1 (n32 len) (mk σ f')) Q) → Ok (H_X12_read_26 N n x1 (n32 j) (mk σ f)) Q := by
  intro n
  induction n with
  | zero => intro j f Q x1 h; omega
  | succ n ih =>
    intro j f Q x1 hn hj h4 hc K
    by_cases hl : j < len
    · rw [H_X12_read_26]
      refine ok_in (by first | assumption | omega | (simp (disch := omega) only [n32_of, neg_n32_1, n32_nat, n32_lt, n32_le, n32_eq, n32_add, n32_sub, n32_mul, n32_m1, m1_n32, n32_addm1, m1_lt, lt_m1, m1_le, le_m1, m1_add1, ofNat_n32, u2_self, u2_n, mk_I, mk_T, ne_eq, not_true_eq_false, not_false_eq_true, h4]; first | done | omega)) ?_
      repeat (first | with_reducible refine ok_W ?_ | with_reducible refine ok_cO (by first | assumption | omega | (simp (disch := omega) only [n32_of, neg_n32_1, n32_nat, n32_lt, n32_le, n32_eq, n32_add, n32_sub, n32_mul, n32_m1, m1_n32, n32_addm1, m1_lt, lt_m1, m1_le, le_m1, m1_add1, ofNat_n32, u2_self, u2_n, mk_I, mk_T, ne_eq, not_true_eq_false, not_false_eq_true, ]; first | done | omega)) ?_ | with_reducible refine ok_ip (by first | assumption | omega | (simp (disch := omega) only [n32_of, neg_n32_1, n32_nat, n32_lt, n32_le, n32_eq, n32_add, n32_sub, n32_mul, n32_m1, m1_n32, n32_addm1, m1_lt, lt_m1, m1_le, le_m1, m1_add1, ofNat_n32, u2_self, u2_n, mk_I, mk_T, ne_eq, not_true_eq_false, not_false_eq_true, ]; first | done | omega)) ?_ | with_reducible refine ok_in (by first | assumption | omega | (simp (disch := omega) only [n32_of, neg_n32_1, n32_nat, n32_lt, n32_le, n32_eq, n32_add, n32_sub, n32_mul, n32_m1, m1_n32, n32_addm1, m1_lt, lt_m1, m1_le, le_m1, m1_add1, ofNat_n32, u2_self, u2_n, mk_I, mk_T, ne_eq, not_true_eq_false, not_false_eq_true, ]; first | done | omega)) ?_)
      simp (disch := omega) only [n32_of, neg_n32_1, n32_nat, n32_lt, n32_le, n32_eq, n32_add, n32_sub, n32_mul, n32_m1, m1_n32, n32_addm1, m1_lt, lt_m1, m1_le, le_m1, m1_add1, ofNat_n32, u2_self, u2_n, mk_I, mk_T, ]
      refine ih (j + 1) _ (by omega) (by omega) ((u2_n (by omega)).trans h4) (fun i hi => ?_) (fun f' e h n' => K f' (fun a k q => (e a k q).trans (u2_n (by omega))) h n')
      by_cases ei : i = j
      · subst ei
        rw [u2_self, u2_n (by omega)]
        exact byte_and _
      · rw [u2_n (by omega), u2_n (by omega)]
        exact hc i (by omega)
    · have ej : j = len := by omega
      subst ej
      exact K f (fun _ _ _ => rfl) hc n
theorem r_read {f : pln} {x : Int32} (hN : 3000 ≤ N) (hlen : len ≤ 2000) (hw : w < 7) (hlw : lw < 2) (hx1 : ¬ x < -1) (hx2 : x < f 235 43) (hxw : x + 1 = n32 w) (h2 : f 235 2 = n32 len) (hb : ∀ j, j < len → f 236 j &&& 255 = n32 (b j) ∧ b j < 256) (hl : f 243 w = n32 lw) (hky : ∀ k, k < 16 → aJ σ 242 k = i64 (kyw k)) : Ok (F_X12_read N x (mk σ f)) (fun y σ' => ∃ σ2 f', σ' = mk σ2 f' ∧ eJ σ σ2 ∧ eqD (2 * w + 1 - lw) w f f' ∧ f' 235 2 = n32 0 ∧ rOut (2 * w + 1 - lw) w lw f f' (run (tTk b len) (tPl b len) 401 0 0 0 (cNew [] 0) [] []) y) := by
  unfold F_X12_read
  refine ok_in hx1 ?_
  refine ok_ip hx2 ?_
  repeat (first | with_reducible refine ok_W ?_ | with_reducible refine ok_cO (by first | assumption | omega | (simp (disch := omega) only [n32_of, neg_n32_1, n32_nat, n32_lt, n32_le, n32_eq, n32_add, n32_sub, n32_mul, n32_m1, m1_n32, n32_addm1, m1_lt, lt_m1, m1_le, le_m1, m1_add1, ofNat_n32, u2_self, u2_n, mk_I, mk_T, ne_eq, not_true_eq_false, not_false_eq_true, ]; first | done | omega)) ?_ | with_reducible refine ok_ip (by first | assumption | omega | (simp (disch := omega) only [n32_of, neg_n32_1, n32_nat, n32_lt, n32_le, n32_eq, n32_add, n32_sub, n32_mul, n32_m1, m1_n32, n32_addm1, m1_lt, lt_m1, m1_le, le_m1, m1_add1, ofNat_n32, u2_self, u2_n, mk_I, mk_T, ne_eq, not_true_eq_false, not_false_eq_true, ]; first | done | omega)) ?_ | with_reducible refine ok_in (by first | assumption | omega | (simp (disch := omega) only [n32_of, neg_n32_1, n32_nat, n32_lt, n32_le, n32_eq, n32_add, n32_sub, n32_mul, n32_m1, m1_n32, n32_addm1, m1_lt, lt_m1, m1_le, le_m1, m1_add1, ofNat_n32, u2_self, u2_n, mk_I, mk_T, ne_eq, not_true_eq_false, not_false_eq_true, ]; first | done | omega)) ?_)
  simp (disch := omega) only [n32_of, neg_n32_1, n32_nat, n32_lt, n32_le, n32_eq, n32_add, n32_sub, n32_mul, n32_m1, m1_n32, n32_addm1, m1_lt, lt_m1, m1_le, le_m1, m1_add1, ofNat_n32, u2_self, u2_n, mk_I, mk_T, h2]
  refine r_copy (len := len) hlen N 0 _ (by omega) (by omega) u2_self (fun i hi => by omega) (fun g eg hg n' => ?_)
  have g4 : g 235 4 = n32 len := (eg _ _ (by omega)).trans u2_self
  have fg : ∀ a k, a ≠ 237 → (a ≠ 235 ∨ k ≠ 4) → g a k = f a k := fun a k q1 q2 => (eg a k q1).trans (u2_n (by omega))
  rw [H_X12_read_26]
  refine ok_ip (by first | assumption | omega | (simp (disch := omega) only [n32_of, neg_n32_1, n32_nat, n32_lt, n32_le, n32_eq, n32_add, n32_sub, n32_mul, n32_m1, m1_n32, n32_addm1, m1_lt, lt_m1, m1_le, le_m1, m1_add1, ofNat_n32, u2_self, u2_n, mk_I, mk_T, ne_eq, not_true_eq_false, not_false_eq_true, g4]; first | done | omega)) ?_
  repeat (first | with_reducible refine ok_W ?_ | with_reducible refine ok_cO (by first | assumption | omega | (simp (disch := omega) only [n32_of, neg_n32_1, n32_nat, n32_lt, n32_le, n32_eq, n32_add, n32_sub, n32_mul, n32_m1, m1_n32, n32_addm1, m1_lt, lt_m1, m1_le, le_m1, m1_add1, ofNat_n32, u2_self, u2_n, mk_I, mk_T, ne_eq, not_true_eq_false, not_false_eq_true, ]; first | done | omega)) ?_ | with_reducible refine ok_ip (by first | assumption | omega | (simp (disch := omega) only [n32_of, neg_n32_1, n32_nat, n32_lt, n32_le, n32_eq, n32_add, n32_sub, n32_mul, n32_m1, m1_n32, n32_addm1, m1_lt, lt_m1, m1_le, le_m1, m1_add1, ofNat_n32, u2_self, u2_n, mk_I, mk_T, ne_eq, not_true_eq_false, not_false_eq_true, ]; first | done | omega)) ?_ | with_reducible refine ok_in (by first | assumption | omega | (simp (disch := omega) only [n32_of, neg_n32_1, n32_nat, n32_lt, n32_le, n32_eq, n32_add, n32_sub, n32_mul, n32_m1, m1_n32, n32_addm1, m1_lt, lt_m1, m1_le, le_m1, m1_add1, ofNat_n32, u2_self, u2_n, mk_I, mk_T, ne_eq, not_true_eq_false, not_false_eq_true, ]; first | done | omega)) ?_)
  have hB : RB b len (u2 g 235 2 0) := ⟨(u2_n (by omega)).trans g4, fun j hj => ⟨by rw [u2_n (by omega), hg j hj, fg _ _ (by omega) (by omega)]; exact (hb j hj).1, (hb j hj).2⟩⟩
  refine ok_oB (ok_mono (r_cut hlen hN hB hky) (fun u σ' hq => ?_))
  obtain ⟨σ2, h, rfl, j1, eh, hT⟩ := hq
  have fh : ∀ a k, a ≠ 237 → a ≠ 238 → a ≠ 239 → a ≠ 240 → (a ≠ 235 ∨ (k ≠ 4 ∧ k ≠ 10 ∧ k ≠ 2)) → h a k = f a k := fun a k q1 q2 q3 q4 q5 => by rw [eh a k q2 q3 q4 (by omega), u2_n (by omega), fg a k q1 (by omega)]
  have h243 : h 243 w = n32 lw := (fh _ _ (by omega) (by omega) (by omega) (by omega) (by omega)).trans hl
  have hh2 : h 235 2 = n32 0 := by rw [eh _ _ (by omega) (by omega) (by omega) (by omega), u2_self]; rfl
  rw [hxw]
  repeat (first | with_reducible refine ok_W ?_ | with_reducible refine ok_cO (by first | assumption | omega | (simp (disch := omega) only [n32_of, neg_n32_1, n32_nat, n32_lt, n32_le, n32_eq, n32_add, n32_sub, n32_mul, n32_m1, m1_n32, n32_addm1, m1_lt, lt_m1, m1_le, le_m1, m1_add1, ofNat_n32, u2_self, u2_n, mk_I, mk_T, ne_eq, not_true_eq_false, not_false_eq_true, h243]; first | done | omega)) ?_ | with_reducible refine ok_ip (by first | assumption | omega | (simp (disch := omega) only [n32_of, neg_n32_1, n32_nat, n32_lt, n32_le, n32_eq, n32_add, n32_sub, n32_mul, n32_m1, m1_n32, n32_addm1, m1_lt, lt_m1, m1_le, le_m1, m1_add1, ofNat_n32, u2_self, u2_n, mk_I, mk_T, ne_eq, not_true_eq_false, not_false_eq_true, h243]; first | done | omega)) ?_ | with_reducible refine ok_in (by first | assumption | omega | (simp (disch := omega) only [n32_of, neg_n32_1, n32_nat, n32_lt, n32_le, n32_eq, n32_add, n32_sub, n32_mul, n32_m1, m1_n32, n32_addm1, m1_lt, lt_m1, m1_le, le_m1, m1_add1, ofNat_n32, u2_self, u2_n, mk_I, mk_T, ne_eq, not_true_eq_false, not_false_eq_true, h243]; first | done | omega)) ?_)
  have epg : 2 * n32 w + 1 - n32 lw = n32 (2 * w + 1 - lw) := by rw [show (2 : Int32) = n32 2 from rfl, show (1 : Int32) = n32 1 from rfl, n32_mul, n32_add, n32_sub (by omega)]
  simp (disch := omega) only [n32_of, neg_n32_1, n32_nat, n32_lt, n32_le, n32_eq, n32_add, n32_sub, n32_mul, n32_m1, m1_n32, n32_addm1, m1_lt, lt_m1, m1_le, le_m1, m1_add1, ofNat_n32, u2_self, u2_n, mk_I, mk_T, h243]
  have hpg : 2 * w + 1 - lw < 14 := by omega
  generalize 2 * w + 1 - lw = pg at hpg
  have hpg2 : 500 * pg < 7000 := by omega
  repeat (first | with_reducible refine ok_W ?_ | with_reducible refine ok_cOi (by first | assumption | omega | (simp (disch := omega) only [n32_of, neg_n32_1, n32_nat, n32_lt, n32_le, n32_eq, n32_add, n32_sub, n32_mul, n32_m1, m1_n32, n32_addm1, m1_lt, lt_m1, m1_le, le_m1, m1_add1, ofNat_n32, u2_self, u2_n, mk_I, mk_T, ne_eq, not_true_eq_false, not_false_eq_true, ]; first | done | omega)) ?_ | with_reducible refine ok_ipi (by first | assumption | omega | (simp (disch := omega) only [n32_of, neg_n32_1, n32_nat, n32_lt, n32_le, n32_eq, n32_add, n32_sub, n32_mul, n32_m1, m1_n32, n32_addm1, m1_lt, lt_m1, m1_le, le_m1, m1_add1, ofNat_n32, u2_self, u2_n, mk_I, mk_T, ne_eq, not_true_eq_false, not_false_eq_true, ]; first | done | omega)) ?_ | with_reducible refine ok_ini (by first | assumption | omega | (simp (disch := omega) only [n32_of, neg_n32_1, n32_nat, n32_lt, n32_le, n32_eq, n32_add, n32_sub, n32_mul, n32_m1, m1_n32, n32_addm1, m1_lt, lt_m1, m1_le, le_m1, m1_add1, ofNat_n32, u2_self, u2_n, mk_I, mk_T, ne_eq, not_true_eq_false, not_false_eq_true, ]; first | done | omega)) ?_)
  try (simp (disch := omega) only [n32_of, neg_n32_1, n32_nat, n32_lt, n32_le, n32_eq, n32_add, n32_sub, n32_mul, n32_m1, m1_n32, n32_addm1, m1_lt, lt_m1, m1_le, le_m1, m1_add1, ofNat_n32, u2_self, u2_n, mk_I, mk_T, ])
  generalize hf1 : u2 (u2 (u2 (u2 (u2 (u2 (u2 (u2 h 235 11 (n32 0)) 235 12 (n32 0)) 235 13 (n32 0)) 235 15 (n32 0)) 235 19 (n32 pg)) 244 pg (n32 0)) 250 pg (n32 0)) 235 32 (n32 (500 * pg)) = f1
  have fr : ∀ a k, (a ≠ 235 ∨ (k ≠ 11 ∧ k ≠ 12 ∧ k ≠ 13 ∧ k ≠ 15 ∧ k ≠ 19 ∧ k ≠ 32)) → (a ≠ 244 ∨ k ≠ pg) → (a ≠ 250 ∨ k ≠ pg) → f1 a k = h a k := fun a k q1 q2 q3 => by rw [← hf1, u2_n (by omega), u2_n (by omega), u2_n (by omega), u2_n (by omega), u2_n (by omega), u2_n (by omega), u2_n (by omega), u2_n (by omega)]
  have z11 : f1 235 11 = n32 0 := by rw [← hf1]; simp (disch := omega) only [n32_of, neg_n32_1, n32_nat, n32_lt, n32_le, n32_eq, n32_add, n32_sub, n32_mul, n32_m1, m1_n32, n32_addm1, m1_lt, lt_m1, m1_le, le_m1, m1_add1, ofNat_n32, u2_self, u2_n, mk_I, mk_T, ]
  have z12 : f1 235 12 = n32 0 := by rw [← hf1]; simp (disch := omega) only [n32_of, neg_n32_1, n32_nat, n32_lt, n32_le, n32_eq, n32_add, n32_sub, n32_mul, n32_m1, m1_n32, n32_addm1, m1_lt, lt_m1, m1_le, le_m1, m1_add1, ofNat_n32, u2_self, u2_n, mk_I, mk_T, ]
  have z13 : f1 235 13 = n32 0 := by rw [← hf1]; simp (disch := omega) only [n32_of, neg_n32_1, n32_nat, n32_lt, n32_le, n32_eq, n32_add, n32_sub, n32_mul, n32_m1, m1_n32, n32_addm1, m1_lt, lt_m1, m1_le, le_m1, m1_add1, ofNat_n32, u2_self, u2_n, mk_I, mk_T, ]
  have z19 : f1 235 19 = n32 pg := by rw [← hf1]; simp (disch := omega) only [n32_of, neg_n32_1, n32_nat, n32_lt, n32_le, n32_eq, n32_add, n32_sub, n32_mul, n32_m1, m1_n32, n32_addm1, m1_lt, lt_m1, m1_le, le_m1, m1_add1, ofNat_n32, u2_self, u2_n, mk_I, mk_T, ]
  have z32 : f1 235 32 = n32 (500 * pg) := by rw [← hf1]; simp (disch := omega) only [n32_of, neg_n32_1, n32_nat, n32_lt, n32_le, n32_eq, n32_add, n32_sub, n32_mul, n32_m1, m1_n32, n32_addm1, m1_lt, lt_m1, m1_le, le_m1, m1_add1, ofNat_n32, u2_self, u2_n, mk_I, mk_T, ]
  have z244 : f1 244 pg = n32 0 := by rw [← hf1]; simp (disch := omega) only [n32_of, neg_n32_1, n32_nat, n32_lt, n32_le, n32_eq, n32_add, n32_sub, n32_mul, n32_m1, m1_n32, n32_addm1, m1_lt, lt_m1, m1_le, le_m1, m1_add1, ofNat_n32, u2_self, u2_n, mk_I, mk_T, ]
  have z250 : f1 250 pg = n32 0 := by rw [← hf1]; simp (disch := omega) only [n32_of, neg_n32_1, n32_nat, n32_lt, n32_le, n32_eq, n32_add, n32_sub, n32_mul, n32_m1, m1_n32, n32_addm1, m1_lt, lt_m1, m1_le, le_m1, m1_add1, ofNat_n32, u2_self, u2_n, mk_I, mk_T, ]
  have hT1 : TR b len f1 := fun j hj hb' => tokR_cg (hT j hj hb') (fr _ _ (by omega) (by omega) (by omega)) (fr _ _ (by omega) (by omega) (by omega)) (fr _ _ (by omega) (by omega) (by omega))
  have e243 : f1 243 w = n32 lw := (fr _ _ (by omega) (by omega) (by omega)).trans h243
  refine ok_mono (r_133 (σ := σ2) (w := w) (lw := lw) (b := b) (len := len) (O := run (tTk b len) (tPl b len) 401 0 0 0 (cNew [] 0) [] []) (by omega) hpg hw hlw N 0 (cNew [] 0) f1 (by omega) e243 hT1 PI_0 (fun j hj => by omega) rfl ⟨z11, z12, z13⟩ ⟨z32, fun j hj => absurd hj (Nat.not_lt_zero j)⟩ ⟨⟨z244, z250, z19⟩, trivial, fun q => absurd rfl q, fun q => absurd rfl q⟩) (fun y σ' hq => ?_)
  obtain ⟨f2, q1, q2, q3, q4, q5, q6, q7⟩ := hq
  refine ⟨σ2, f2, q1, j1, fun a k c1 c2 c3 c4 c5 c6 c7 c8 => ?_, ?_, q4, q5, q6, fun q => ?_⟩
  · rw [q2 a k c1 c2 c3 c4 c5 c6 c7 c8, fr a k (by omega) (by omega) (by omega)]
    exact fh a k (by omega) (by omega) (by omega) (by omega) (by omega)
  · rw [q3, fr _ _ (by omega) (by omega) (by omega)]
    exact hh2
  · rw [q7 q, e243, hl]
end RRD
