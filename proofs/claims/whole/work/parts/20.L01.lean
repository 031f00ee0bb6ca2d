/-! ===== the reference's parser: tokens, stack, code ===== -/
def frl : List Rl → List Nat
  | [] => []
  | q :: rl => q.2.2.1 ++ (q.2.2.2 ++ frl rl)
def frc : List Ru → List Nat
  | [] => []
  | u :: rs => u.2.1 ++ (frl u.2.2 ++ frc rs)
theorem frl_app : ∀ (a c : List Rl), frl (a ++ c) = frl a ++ frl c := by
  intro a
  induction a with
  | nil => intro c; rfl
  | cons u a ih => intro c; rw [List.cons_append, frl, frl, ih]; simp
theorem frc_app : ∀ (a c : List Ru), frc (a ++ c) = frc a ++ frc c := by
  intro a
  induction a with
  | nil => intro c; rfl
  | cons u a ih => intro c; rw [List.cons_append, frc, frc, ih]; simp
theorem frl_len : ∀ rl, (frl rl).length ≤ wl2 rl := by
  intro rl
  induction rl with
  | nil => exact Nat.le_refl _
  | cons q rl ih => rw [frl, wl2, List.length_append, List.length_append]; omega
theorem frc_len : ∀ rs, (frc rs).length ≤ wtr rs := by
  intro rs
  induction rs with
  | nil => exact Nat.le_refl _
  | cons u rs ih =>
    have := frl_len u.2.2
    rw [frc, wtr, List.length_append, List.length_append]
    omega
def rCd (C : CX) (c : List Nat) : List Nat := frc (xR C) ++ (xV C ++ (frl (xL C) ++ (xE C ++ c)))
theorem rCd_app {C : CX} {c e : List Nat} : rCd C (c ++ e) = rCd C c ++ e := by
  unfold rCd
  simp [List.append_assoc]
theorem rTot {pt : Nat} {C : CX} {c ws : List Nat} : (rCd C c).length + ws.length ≤ tot pt C c ws := by
  have a := frc_len (xR C)
  have b := frl_len (xL C)
  unfold rCd tot
  simp only [List.length_append]
  omega
theorem kd_iff {t x : Nat} (h : rkOK t x) (ht : t ≤ 27 ∨ 32 ≤ t) : x ≤ 35 ∧ (x = 0 ↔ t = 27) ∧ (x = 2 ↔ 32 ≤ t) ∧ (x = 4 ↔ t = 16) ∧ (x = 6 ↔ t = 24) ∧ (x = 7 ↔ t = 25) ∧ (x = 8 ↔ t = 17) ∧ (x = 9 ↔ t = 18) ∧ (x = 10 ↔ t = 19) ∧ (t < 16 ↔ 20 ≤ x) ∧ (t < 16 → x = 20 + t) ∧ (20 ≤ t ∧ t ≤ 23 ↔ 11 ≤ x ∧ x ≤ 14) ∧ (20 ≤ t ∧ t ≤ 23 → x + 9 = t) := by
  rcases h with h | ⟨rfl, rfl⟩
  · unfold rkk at h
    repeat' split at h
    all_goals omega
  · omega
def wst (f : pln) : List Nat → Prop
  | [] => True
  | x :: ws => f 258 ws.length = n32 (rkk x) ∧ wst f ws
theorem wst_cg {f f' : pln} : ∀ ws : List Nat, wst f ws → (∀ k, k < ws.length → f' 258 k = f 258 k) → wst f' ws := by
  intro ws
  induction ws with
  | nil => intro _ _; exact trivial
  | cons x ws ih =>
    intro h e
    exact ⟨(e _ (by rw [List.length_cons]; omega)).trans h.1, ih h.2 (fun k hk => e k (by rw [List.length_cons]; omega))⟩
theorem segR_in {f f' : pln} {p : Nat} {c : List Nat} (h : segR f p c) (e : ∀ a k, a = 256 ∨ a = 257 → p ≤ k → k < p + c.length → f' a k = f a k) : segR f' p c := fun j hj => ⟨(e _ _ (by omega) (by omega) (by omega)).trans (h j hj).1, fun q => (e _ _ (by omega) (by omega) (by omega)).trans ((h j hj).2 q)⟩
theorem segR_one {f : pln} {p : Nat} {c : List Nat} {x : Nat} (h : segR f p c) (h1 : f 256 (p + c.length) = n32 (rK x)) (h2 : opd x → f 257 (p + c.length) = n32 (rV x)) : segR f p (c ++ [x]) := by
  intro j hj
  rw [List.length_append, List.length_singleton] at hj
  by_cases e : j < c.length
  · have := h j e
    rw [show (c ++ [x]).getD j 0 = c.getD j 0 by rw [List.getD_eq_getElem?_getD, List.getD_eq_getElem?_getD, List.getElem?_append_left e]]
    exact this
  · have ej : j = c.length := by omega
    subst ej
    rw [show (c ++ [x]).getD c.length 0 = x by rw [List.getD_eq_getElem?_getD, List.getElem?_append_right (Nat.le_refl _), Nat.sub_self]; rfl]
    exact ⟨h1, h2⟩
theorem segR_app {f : pln} {p : Nat} {c e : List Nat} (h : segR f p (c ++ e)) : segR f p c ∧ segR f (p + c.length) e := by
  constructor
  · intro j hj
    have := h j (by rw [List.length_append]; omega)
    rw [show (c ++ e).getD j 0 = c.getD j 0 by rw [List.getD_eq_getElem?_getD, List.getD_eq_getElem?_getD, List.getElem?_append_left hj]] at this
    exact this
  · intro j hj
    have := h (c.length + j) (by rw [List.length_append]; omega)
    rw [show (c ++ e).getD (c.length + j) 0 = e.getD j 0 by rw [List.getD_eq_getElem?_getD, List.getD_eq_getElem?_getD, List.getElem?_append_right (by omega), Nat.add_sub_cancel_left], ← Nat.add_assoc] at this
    exact this
def eqE (pg : Nat) (f f' : pln) : Prop := ∀ a k, (a ≠ 235 ∨ (k ≠ 11 ∧ k ≠ 12 ∧ k ≠ 13 ∧ k ≠ 14 ∧ k ≠ 32 ∧ k ≠ 36)) → a ≠ 258 → ((a ≠ 256 ∧ a ≠ 257) ∨ k < 500 * pg ∨ 500 * pg + 500 ≤ k) → f' a k = f a k
theorem eqE_rf {pg : Nat} {f : pln} : eqE pg f f := fun _ _ _ _ _ => rfl
theorem eqE_tr {pg : Nat} {f g h : pln} (e1 : eqE pg f g) (e2 : eqE pg g h) : eqE pg f h := fun a k q1 q2 q3 => (e2 a k q1 q2 q3).trans (e1 a k q1 q2 q3)
theorem eqE_u {pg : Nat} {f : pln} {k : Nat} {v : Int32} (h : k = 11 ∨ k = 12 ∨ k = 13 ∨ k = 14 ∨ k = 32 ∨ k = 36) : eqE pg f (u2 f 235 k v) := fun a j q1 q2 q3 => u2_n (by omega)
theorem eqE_w {pg : Nat} {f : pln} {k : Nat} {v : Int32} : eqE pg f (u2 f 258 k v) := fun a j q1 q2 q3 => u2_n (by omega)
/-- all tokens up to the end, or 401, lie there -/
def TR (b : Nat → Nat) (len : Nat) (f : pln) : Prop := ∀ j, j ≤ 400 → (∀ j', j' < j → tTk b len j' ≠ 27) → tokR b len f j
theorem TR_E {b : Nat → Nat} {len pg : Nat} {f f' : pln} (h : TR b len f) (e : eqE pg f f') : TR b len f' := fun j hj hb => tokR_cg (h j hj hb) (e _ _ (by omega) (by omega) (by omega)) (e _ _ (by omega) (by omega) (by omega)) (e _ _ (by omega) (by omega) (by omega))
def rZ (pg : Nat) (f : pln) (Z ws : List Nat) : Prop := (f 235 32 = n32 (500 * pg + Z.length) ∧ segR f (500 * pg) Z) ∧ f 235 36 = n32 ws.length ∧ wst f ws
def rG (f : pln) (k op : Nat) : Prop := f 235 11 = n32 k ∧ f 235 12 = n32 op ∧ f 235 13 = n32 0
def RF (O : Nat × Nat × List Ru) (f : pln) : Prop := f 235 13 = n32 O.1 ∧ (O.1 = 1 ∨ O.1 = 2) ∧ f 235 14 = n32 O.2.1
theorem rZ_cg {pg : Nat} {f f' : pln} {Z ws : List Nat} (h : rZ pg f Z ws) (e1 : f' 235 32 = f 235 32) (e2 : f' 235 36 = f 235 36) (e3 : ∀ a k, 256 ≤ a → a ≤ 258 → f' a k = f a k) : rZ pg f' Z ws := ⟨⟨e1.trans h.1.1, segR_cg h.1.2 (fun k => e3 _ _ (by omega) (by omega)) (fun k => e3 _ _ (by omega) (by omega))⟩, e2.trans h.2.1, wst_cg _ h.2.2 (fun k _ => e3 _ _ (by omega) (by omega))⟩
section RP
variable {N pg : Nat} {σ : aSt}
theorem r_is {f : pln} {k x K : Nat} (h13 : f 235 13 = n32 0) (h11 : f 235 11 = n32 k) (hk : k ≤ 400) (hx : f 238 k = n32 x) (hx2 : x ≤ 35) (hK : K ≤ 100) : F_X12_is N (n32 K) (mk σ f) = some (bI (x = K), mk σ f) := by
  unfold F_X12_is J_X12_is_24 J_X12_is_25
  rw [cO_t nar_b0, cO_t nar_b1, if_neg (by first | assumption | omega | (simp (disch := omega) only [n32_of, neg_n32_1, n32_nat, n32_lt, n32_le, n32_eq, n32_add, n32_sub, n32_mul, n32_m1, m1_n32, n32_addm1, m1_lt, lt_m1, m1_le, le_m1, m1_add1, ofNat_n32, u2_self, u2_n, mk_I, mk_T, ne_eq, not_true_eq_false, not_false_eq_true, h13]; first | done | omega)), cO_t (by first | assumption | omega | (simp (disch := omega) only [n32_of, neg_n32_1, n32_nat, n32_lt, n32_le, n32_eq, n32_add, n32_sub, n32_mul, n32_m1, m1_n32, n32_addm1, m1_lt, lt_m1, m1_le, le_m1, m1_add1, ofNat_n32, u2_self, u2_n, mk_I, mk_T, ne_eq, not_true_eq_false, not_false_eq_true, h11]; first | done | omega))]
  by_cases e : x = K
  · rw [if_neg (by first | assumption | omega | (simp (disch := omega) only [n32_of, neg_n32_1, n32_nat, n32_lt, n32_le, n32_eq, n32_add, n32_sub, n32_mul, n32_m1, m1_n32, n32_addm1, m1_lt, lt_m1, m1_le, le_m1, m1_add1, ofNat_n32, u2_self, u2_n, mk_I, mk_T, ne_eq, not_true_eq_false, not_false_eq_true, h11, hx]; first | done | omega)), bI_t e]
  · rw [if_pos (by first | assumption | omega | (simp (disch := omega) only [n32_of, neg_n32_1, n32_nat, n32_lt, n32_le, n32_eq, n32_add, n32_sub, n32_mul, n32_m1, m1_n32, n32_addm1, m1_lt, lt_m1, m1_le, le_m1, m1_add1, ofNat_n32, u2_self, u2_n, mk_I, mk_T, ne_eq, not_true_eq_false, not_false_eq_true, h11, hx]; first | done | omega)), bI_f e]
theorem r_isF {f : pln} {q : Nat} {K : Int32} (h13 : f 235 13 = n32 q) (hq : q = 1 ∨ q = 2) : F_X12_is N K (mk σ f) = some (0, mk σ f) := by
  unfold F_X12_is J_X12_is_24 J_X12_is_25
  rw [cO_t nar_b0, if_pos (by first | assumption | omega | (simp (disch := omega) only [n32_of, neg_n32_1, n32_nat, n32_lt, n32_le, n32_eq, n32_add, n32_sub, n32_mul, n32_m1, m1_n32, n32_addm1, m1_lt, lt_m1, m1_le, le_m1, m1_add1, ofNat_n32, u2_self, u2_n, mk_I, mk_T, ne_eq, not_true_eq_false, not_false_eq_true, h13]; first | done | omega))]
theorem r_fail {f : pln} {q k : Nat} (h13 : f 235 13 = n32 0) (h11 : f 235 11 = n32 k) (hk : k ≤ 400) : F_X12_fail N (n32 q) (mk σ f) = some ((), mk σ (u2 (u2 f 235 13 (n32 q)) 235 14 (f 239 k))) := by
  unfold F_X12_fail
  rw [if_pos (by first | assumption | omega | (simp (disch := omega) only [n32_of, neg_n32_1, n32_nat, n32_lt, n32_le, n32_eq, n32_add, n32_sub, n32_mul, n32_m1, m1_n32, n32_addm1, m1_lt, lt_m1, m1_le, le_m1, m1_add1, ofNat_n32, u2_self, u2_n, mk_I, mk_T, ne_eq, not_true_eq_false, not_false_eq_true, h13]; first | done | omega)), lt_d, mk_W, cO_t (by first | assumption | omega | (simp (disch := omega) only [n32_of, neg_n32_1, n32_nat, n32_lt, n32_le, n32_eq, n32_add, n32_sub, n32_mul, n32_m1, m1_n32, n32_addm1, m1_lt, lt_m1, m1_le, le_m1, m1_add1, ofNat_n32, u2_self, u2_n, mk_I, mk_T, ne_eq, not_true_eq_false, not_false_eq_true, h11]; first | done | omega)), lt_d, mk_W]
  simp (disch := omega) only [n32_of, neg_n32_1, n32_nat, n32_lt, n32_le, n32_eq, n32_add, n32_sub, n32_mul, n32_m1, m1_n32, n32_addm1, m1_lt, lt_m1, m1_le, le_m1, m1_add1, ofNat_n32, u2_self, u2_n, mk_I, mk_T, h11]
theorem r_failF {f : pln} {q : Nat} {K : Int32} (h13 : f 235 13 = n32 q) (hq : q = 1 ∨ q = 2) : F_X12_fail N K (mk σ f) = some ((), mk σ f) := by
  unfold F_X12_fail
  rw [if_neg (by first | assumption | omega | (simp (disch := omega) only [n32_of, neg_n32_1, n32_nat, n32_lt, n32_le, n32_eq, n32_add, n32_sub, n32_mul, n32_m1, m1_n32, n32_addm1, m1_lt, lt_m1, m1_le, le_m1, m1_add1, ofNat_n32, u2_self, u2_n, mk_I, mk_T, ne_eq, not_true_eq_false, not_false_eq_true, h13]; first | done | omega))]
theorem r_next {f : pln} {k : Nat} (h11 : f 235 11 = n32 k) (hk : k < 400) : F_X12_next N (mk σ f) = some ((), mk σ (u2 f 235 11 (n32 (k + 1)))) := by
  unfold F_X12_next J_X12_next_28
  rw [if_pos (by first | assumption | omega | (simp (disch := omega) only [n32_of, neg_n32_1, n32_nat, n32_lt, n32_le, n32_eq, n32_add, n32_sub, n32_mul, n32_m1, m1_n32, n32_addm1, m1_lt, lt_m1, m1_le, le_m1, m1_add1, ofNat_n32, u2_self, u2_n, mk_I, mk_T, ne_eq, not_true_eq_false, not_false_eq_true, h11]; first | done | omega)), lt_d, mk_W]
  simp (disch := omega) only [n32_of, neg_n32_1, n32_nat, n32_lt, n32_le, n32_eq, n32_add, n32_sub, n32_mul, n32_m1, m1_n32, n32_addm1, m1_lt, lt_m1, m1_le, le_m1, m1_add1, ofNat_n32, u2_self, u2_n, mk_I, mk_T, h11]
theorem r_next4 {f : pln} (h13 : f 235 13 = n32 0) (h11 : f 235 11 = n32 400) : F_X12_next N (mk σ f) = some ((), mk σ (u2 (u2 f 235 13 (n32 2)) 235 14 (f 239 400))) := by
  unfold F_X12_next J_X12_next_28
  rw [if_neg (by first | assumption | omega | (simp (disch := omega) only [n32_of, neg_n32_1, n32_nat, n32_lt, n32_le, n32_eq, n32_add, n32_sub, n32_mul, n32_m1, m1_n32, n32_addm1, m1_lt, lt_m1, m1_le, le_m1, m1_add1, ofNat_n32, u2_self, u2_n, mk_I, mk_T, ne_eq, not_true_eq_false, not_false_eq_true, h11]; first | done | omega))]
  have := r_fail (N := N) (σ := σ) (q := 2) h13 h11 (by omega)
  rw [show (2 : Int32) = n32 2 from rfl, this, oB_s]
theorem r_nextF {f : pln} {q : Nat} (h13 : f 235 13 = n32 q) (hq : q = 1 ∨ q = 2) : ∃ f', F_X12_next N (mk σ f) = some ((), mk σ f') ∧ eqE pg f f' ∧ f' 235 13 = f 235 13 ∧ f' 235 14 = f 235 14 ∧ (∀ a k, a ≠ 235 ∨ k ≠ 11 → f' a k = f a k) := by
  unfold F_X12_next J_X12_next_28
  by_cases h : aI (mk σ f) 235 11 ≠ 400
  · rw [if_pos h, lt_d, mk_W]
    exact ⟨_, rfl, eqE_u (Or.inl rfl), u2_n (by omega), u2_n (by omega), fun a k q => u2_n (by omega)⟩
  · rw [if_neg h, r_failF h13 hq]
    exact ⟨f, rfl, eqE_rf, rfl, rfl, fun _ _ _ => rfl⟩
theorem r_emit {f : pln} {l x v : Nat} (h32 : f 235 32 = n32 l) (hl : l < 7000) : F_X12_emit N (n32 x) (n32 v) (mk σ f) = some ((), mk σ (u2 (u2 (u2 f 256 l (n32 x)) 257 l (n32 v)) 235 32 (n32 (l + 1)))) := by
  unfold F_X12_emit
  rw [cO_t (by first | assumption | omega | (simp (disch := omega) only [n32_of, neg_n32_1, n32_nat, n32_lt, n32_le, n32_eq, n32_add, n32_sub, n32_mul, n32_m1, m1_n32, n32_addm1, m1_lt, lt_m1, m1_le, le_m1, m1_add1, ofNat_n32, u2_self, u2_n, mk_I, mk_T, ne_eq, not_true_eq_false, not_false_eq_true, h32]; first | done | omega)), lt_d, mk_W, cO_t (by first | assumption | omega | (simp (disch := omega) only [n32_of, neg_n32_1, n32_nat, n32_lt, n32_le, n32_eq, n32_add, n32_sub, n32_mul, n32_m1, m1_n32, n32_addm1, m1_lt, lt_m1, m1_le, le_m1, m1_add1, ofNat_n32, u2_self, u2_n, mk_I, mk_T, ne_eq, not_true_eq_false, not_false_eq_true, h32]; first | done | omega)), lt_d, mk_W, lt_d, mk_W]
  simp (disch := omega) only [n32_of, neg_n32_1, n32_nat, n32_lt, n32_le, n32_eq, n32_add, n32_sub, n32_mul, n32_m1, m1_n32, n32_addm1, m1_lt, lt_m1, m1_le, le_m1, m1_add1, ofNat_n32, u2_self, u2_n, mk_I, mk_T, h32]
theorem rZ_emit {f : pln} {Z ws : List Nat} {x v : Nat} (h : rZ pg f Z ws) (hv : opd x → v = rV x) : rZ pg (u2 (u2 (u2 f 256 (500 * pg + Z.length) (n32 (rK x))) 257 (500 * pg + Z.length) (n32 v)) 235 32 (n32 (500 * pg + Z.length + 1))) (Z ++ [x]) ws := by
  obtain ⟨⟨h1, h2⟩, h3, h4⟩ := h
  refine ⟨⟨?_, segR_one (segR_in h2 (fun a k q1 q2 q3 => ?_)) ?_ (fun ho => ?_)⟩, ?_, wst_cg _ h4 (fun k _ => ?_)⟩
  · rw [u2_self, List.length_append, List.length_singleton, Nat.add_assoc]
  · rw [u2_n (by omega), u2_n (by omega), u2_n (by omega)]
  · rw [u2_n (by omega), u2_n (by omega), u2_self]
  · rw [u2_n (by omega), u2_self, hv ho]
  · rw [u2_n (by omega), u2_n (by omega), u2_n (by omega)]; exact h3
  · rw [u2_n (by omega), u2_n (by omega), u2_n (by omega)]
theorem rZ_push {f : pln} {Z ws : List Nat} {x : Nat} (h : rZ pg f Z ws) : rZ pg (u2 (u2 f 258 ws.length (n32 (rkk x))) 235 36 (n32 (ws.length + 1))) Z (x :: ws) := by
  obtain ⟨⟨h1, h2⟩, h3, h4⟩ := h
  refine ⟨⟨?_, segR_cg h2 (fun k => ?_) (fun k => ?_)⟩, ?_, ?_, wst_cg _ h4 (fun k hk => ?_)⟩
  · rw [u2_n (by omega), u2_n (by omega)]; exact h1
  · rw [u2_n (by omega), u2_n (by omega)]
  · rw [u2_n (by omega), u2_n (by omega)]
  · rw [u2_self]; rfl
  · rw [u2_n (by omega), u2_self]
  · rw [u2_n (by omega), u2_n (by omega)]
/-- what waits comes out: all up to a (, or the * alone -/
theorem r_come {tm r : Nat} (hpg : pg < 14) (htm : (tm = 0 ∧ r = 1) ∨ (tm = 1 ∧ r = 5)) : ∀ (n : Nat) (ws Z : List Nat) (f : pln), ws.length < n → rZ pg f Z ws → ws.length ≤ 40 → Z.length + ws.length ≤ 450 → (∀ x ∈ ws, x = 17 ∨ x = 18 ∨ x = 19 ∨ x = 24) → Ok (H_X12_comesOut_0 N n (n32 tm) (mk σ f)) (fun _ σ' => ∃ f', σ' = mk σ f' ∧ rZ pg f' (Z ++ ppA r ws) (ppB r ws) ∧ eqE pg f f' ∧ (∀ k, k ≠ 32 → k ≠ 36 → f' 235 k = f 235 k)) := by
  intro n
  induction n with
  | zero => intro ws Z f h; omega
  | succ n ih =>
    intro ws Z f hn hZ hw hl hx
    have h36 := hZ.2.1
    rw [H_X12_comesOut_0]
    unfold J_X12_comesOut_92
    cases ws with
    | nil =>
      with_reducible refine ok_ip (by first | assumption | omega | (simp (disch := omega) only [n32_of, neg_n32_1, n32_nat, n32_lt, n32_le, n32_eq, n32_add, n32_sub, n32_mul, n32_m1, m1_n32, n32_addm1, m1_lt, lt_m1, m1_le, le_m1, m1_add1, ofNat_n32, u2_self, u2_n, mk_I, mk_T, ne_eq, not_true_eq_false, not_false_eq_true, h36, List.length_nil]; first | done | omega)) ?_
      refine ok_some ⟨f, rfl, ?_, eqE_rf, fun _ _ _ => rfl⟩
      rw [ppA, ppB, List.append_nil]
      exact hZ
    | cons x ws =>
      rw [List.length_cons] at h36 hn hw hl
      have hx2 := hx x List.mem_cons_self
      have hx1 := hZ.2.2.1
      have hrk := rk_op hx2
      have hkk : rkk x = (if x = 24 then 6 else if x = 17 then 8 else if x = 18 then 9 else 10) := by rcases hx2 with rfl | rfl | rfl | rfl <;> rfl
      have hk100 : rkk x ≤ 10 := by rcases hx2 with rfl | rfl | rfl | rfl <;> decide
      have stop : ¬ r ≤ rkx x → Ok (some ((), mk σ f)) (fun _ σ' => ∃ f', σ' = mk σ f' ∧ rZ pg f' (Z ++ ppA r (x :: ws)) (ppB r (x :: ws)) ∧ eqE pg f f' ∧ (∀ k, k ≠ 32 → k ≠ 36 → f' 235 k = f 235 k)) := by
        intro hc
        refine ok_some ⟨f, rfl, ?_, eqE_rf, fun _ _ _ => rfl⟩
        rw [ppA, ppB, if_neg hc, if_neg hc, List.append_nil]
        exact hZ
      have go : r ≤ rkx x → x ≠ 24 → Ok (J_X12_comesOut_43 N (H_X12_comesOut_0 N n) (n32 tm) (mk σ f)) (fun _ σ' => ∃ f', σ' = mk σ f' ∧ rZ pg f' (Z ++ ppA r (x :: ws)) (ppB r (x :: ws)) ∧ eqE pg f f' ∧ (∀ k, k ≠ 32 → k ≠ 36 → f' 235 k = f 235 k)) := by
        intro hc hn24
        unfold J_X12_comesOut_43
        repeat (first | with_reducible refine ok_W ?_ | with_reducible refine ok_cO (by first | assumption | omega | (simp (disch := omega) only [n32_of, neg_n32_1, n32_nat, n32_lt, n32_le, n32_eq, n32_add, n32_sub, n32_mul, n32_m1, m1_n32, n32_addm1, m1_lt, lt_m1, m1_le, le_m1, m1_add1, ofNat_n32, u2_self, u2_n, mk_I, mk_T, ne_eq, not_true_eq_false, not_false_eq_true, h36, Nat.add_sub_cancel]; first | done | omega)) ?_ | with_reducible refine ok_ip (by first | assumption | omega | (simp (disch := omega) only [n32_of, neg_n32_1, n32_nat, n32_lt, n32_le, n32_eq, n32_add, n32_sub, n32_mul, n32_m1, m1_n32, n32_addm1, m1_lt, lt_m1, m1_le, le_m1, m1_add1, ofNat_n32, u2_self, u2_n, mk_I, mk_T, ne_eq, not_true_eq_false, not_false_eq_true, h36, Nat.add_sub_cancel]; first | done | omega)) ?_ | with_reducible refine ok_in (by first | assumption | omega | (simp (disch := omega) only [n32_of, neg_n32_1, n32_nat, n32_lt, n32_le, n32_eq, n32_add, n32_sub, n32_mul, n32_m1, m1_n32, n32_addm1, m1_lt, lt_m1, m1_le, le_m1, m1_add1, ofNat_n32, u2_self, u2_n, mk_I, mk_T, ne_eq, not_true_eq_false, not_false_eq_true, h36, Nat.add_sub_cancel]; first | done | omega)) ?_)
        simp (disch := omega) only [n32_of, neg_n32_1, n32_nat, n32_lt, n32_le, n32_eq, n32_add, n32_sub, n32_mul, n32_m1, m1_n32, n32_addm1, m1_lt, lt_m1, m1_le, le_m1, m1_add1, ofNat_n32, u2_self, u2_n, mk_I, mk_T, h36, Nat.add_sub_cancel, hx1]
        have hZ2 : rZ pg (u2 f 235 36 (n32 ws.length)) Z ws := by
          obtain ⟨⟨g1, g2⟩, g3, g4⟩ := hZ
          exact ⟨⟨(u2_n (by omega)).trans g1, segR_cg g2 (fun k => u2_n (by omega)) (fun k => u2_n (by omega))⟩, u2_self, wst_cg _ g4.2 (fun k _ => u2_n (by omega))⟩
        have em : Ok (J_X12_comesOut_85 N (H_X12_comesOut_0 N n) (n32 tm) (n32 (rK x)) (mk σ (u2 f 235 36 (n32 ws.length)))) (fun _ σ' => ∃ f', σ' = mk σ f' ∧ rZ pg f' (Z ++ ppA r (x :: ws)) (ppB r (x :: ws)) ∧ eqE pg f f' ∧ (∀ k, k ≠ 32 → k ≠ 36 → f' 235 k = f 235 k)) := by
          unfold J_X12_comesOut_85
          rw [show (0 : Int32) = n32 0 from rfl, r_emit (v := 0) hZ2.1.1 (by omega)]
          refine ok_oB (ok_some ?_)
          refine ok_mono (ih ws (Z ++ [x]) _ (by omega) (rZ_emit hZ2 (fun ho => by omega)) (by omega) (by rw [List.length_append, List.length_singleton]; omega) (fun y hy => hx y (List.mem_cons_of_mem _ hy))) (fun u σ' hq => ?_)
          obtain ⟨f', r1, r2, r3, r4⟩ := hq
          refine ⟨f', r1, ?_, fun a k w1 w2 w3 => ?_, fun k w1 w2 => ?_⟩
          · rw [ppA, ppB, if_pos hc, if_pos hc]
            rw [List.append_assoc] at r2
            exact r2
          · rw [r3 a k w1 w2 w3, u2_n (by omega), u2_n (by omega), u2_n (by omega), u2_n (by omega)]
          · rw [r4 k w1 w2, u2_n (by omega), u2_n (by omega), u2_n (by omega), u2_n (by omega)]
        rcases hx2 with rfl | rfl | rfl | rfl
        · refine ok_in (by decide) ?_
          exact em
        · refine ok_ip (by decide) ?_
          refine ok_in (by decide) ?_
          exact em
        · refine ok_ip (by decide) ?_
          refine ok_ip (by decide) ?_
          exact em
        · exact absurd rfl hn24
      with_reducible refine ok_in (by first | assumption | omega | (simp (disch := omega) only [n32_of, neg_n32_1, n32_nat, n32_lt, n32_le, n32_eq, n32_add, n32_sub, n32_mul, n32_m1, m1_n32, n32_addm1, m1_lt, lt_m1, m1_le, le_m1, m1_add1, ofNat_n32, u2_self, u2_n, mk_I, mk_T, ne_eq, not_true_eq_false, not_false_eq_true, h36]; first | done | omega)) ?_
      with_reducible refine ok_cO (by first | assumption | omega | (simp (disch := omega) only [n32_of, neg_n32_1, n32_nat, n32_lt, n32_le, n32_eq, n32_add, n32_sub, n32_mul, n32_m1, m1_n32, n32_addm1, m1_lt, lt_m1, m1_le, le_m1, m1_add1, ofNat_n32, u2_self, u2_n, mk_I, mk_T, ne_eq, not_true_eq_false, not_false_eq_true, h36, Nat.add_sub_cancel]; first | done | omega)) ?_
      simp (disch := omega) only [n32_of, neg_n32_1, n32_nat, n32_lt, n32_le, n32_eq, n32_add, n32_sub, n32_mul, n32_m1, m1_n32, n32_addm1, m1_lt, lt_m1, m1_le, le_m1, m1_add1, ofNat_n32, u2_self, u2_n, mk_I, mk_T, h36, Nat.add_sub_cancel, hx1]
      by_cases h24 : x = 24
      · have : rkk x = 6 := by rw [hkk, if_pos h24]
        with_reducible refine ok_ip (by first | assumption | omega | (simp (disch := omega) only [n32_of, neg_n32_1, n32_nat, n32_lt, n32_le, n32_eq, n32_add, n32_sub, n32_mul, n32_m1, m1_n32, n32_addm1, m1_lt, lt_m1, m1_le, le_m1, m1_add1, ofNat_n32, u2_self, u2_n, mk_I, mk_T, ne_eq, not_true_eq_false, not_false_eq_true, ]; first | done | omega)) ?_
        exact stop (by rw [hrk, if_pos h24]; omega)
      · have : rkk x ≠ 6 := by
          rcases hx2 with rfl | rfl | rfl | rfl
          · decide
          · decide
          · decide
          · exact absurd rfl h24
        with_reducible refine ok_in (by first | assumption | omega | (simp (disch := omega) only [n32_of, neg_n32_1, n32_nat, n32_lt, n32_le, n32_eq, n32_add, n32_sub, n32_mul, n32_m1, m1_n32, n32_addm1, m1_lt, lt_m1, m1_le, le_m1, m1_add1, ofNat_n32, u2_self, u2_n, mk_I, mk_T, ne_eq, not_true_eq_false, not_false_eq_true, ]; first | done | omega)) ?_
        rcases htm with ⟨rfl, rfl⟩ | ⟨rfl, rfl⟩
        · with_reducible refine ok_ip (by first | assumption | omega | (simp (disch := omega) only [n32_of, neg_n32_1, n32_nat, n32_lt, n32_le, n32_eq, n32_add, n32_sub, n32_mul, n32_m1, m1_n32, n32_addm1, m1_lt, lt_m1, m1_le, le_m1, m1_add1, ofNat_n32, u2_self, u2_n, mk_I, mk_T, ne_eq, not_true_eq_false, not_false_eq_true, ]; first | done | omega)) ?_
          exact go (by rw [hrk, if_neg h24]; split <;> omega) h24
        · with_reducible refine ok_in (by first | assumption | omega | (simp (disch := omega) only [n32_of, neg_n32_1, n32_nat, n32_lt, n32_le, n32_eq, n32_add, n32_sub, n32_mul, n32_m1, m1_n32, n32_addm1, m1_lt, lt_m1, m1_le, le_m1, m1_add1, ofNat_n32, u2_self, u2_n, mk_I, mk_T, ne_eq, not_true_eq_false, not_false_eq_true, ]; first | done | omega)) ?_
          with_reducible refine ok_cO (by first | assumption | omega | (simp (disch := omega) only [n32_of, neg_n32_1, n32_nat, n32_lt, n32_le, n32_eq, n32_add, n32_sub, n32_mul, n32_m1, m1_n32, n32_addm1, m1_lt, lt_m1, m1_le, le_m1, m1_add1, ofNat_n32, u2_self, u2_n, mk_I, mk_T, ne_eq, not_true_eq_false, not_false_eq_true, ]; first | done | omega)) ?_
          by_cases h19 : x = 19
          · have : rkk x = 10 := by rw [h19]; rfl
            with_reducible refine ok_in (by first | assumption | omega | (simp (disch := omega) only [n32_of, neg_n32_1, n32_nat, n32_lt, n32_le, n32_eq, n32_add, n32_sub, n32_mul, n32_m1, m1_n32, n32_addm1, m1_lt, lt_m1, m1_le, le_m1, m1_add1, ofNat_n32, u2_self, u2_n, mk_I, mk_T, ne_eq, not_true_eq_false, not_false_eq_true, ]; first | done | omega)) ?_
            exact go (by rw [h19]; decide) h24
          · have : rkk x ≠ 10 := by
              rcases hx2 with rfl | rfl | rfl | rfl
              · decide
              · decide
              · exact absurd rfl h19
              · decide
            with_reducible refine ok_ip (by first | assumption | omega | (simp (disch := omega) only [n32_of, neg_n32_1, n32_nat, n32_lt, n32_le, n32_eq, n32_add, n32_sub, n32_mul, n32_m1, m1_n32, n32_addm1, m1_lt, lt_m1, m1_le, le_m1, m1_add1, ofNat_n32, u2_self, u2_n, mk_I, mk_T, ne_eq, not_true_eq_false, not_false_eq_true, ]; first | done | omega)) ?_
            exact stop (by rw [hrk, if_neg h24, if_neg h19]; omega)
theorem pp_41 : ∀ ws, shp ws → ppA 4 ws = ppA 1 ws ∧ ppB 4 ws = ppB 1 ws := by
  intro ws
  induction ws with
  | nil => intro _; exact ⟨rfl, rfl⟩
  | cons x ws ih =>
    intro h
    obtain ⟨i1, i2⟩ := ih h.1
    have hk := rk_op (shp_mem _ h x List.mem_cons_self)
    rw [ppA, ppB, ppA, ppB]
    by_cases e : x = 24
    · rw [if_pos e] at hk
      rw [if_neg (by omega), if_neg (by omega), if_neg (by omega), if_neg (by omega)]
      exact ⟨rfl, rfl⟩
    · rw [if_neg e] at hk
      have : 4 ≤ rkx x := by split at hk <;> omega
      rw [if_pos (by omega), if_pos (by omega), if_pos (by omega), if_pos (by omega), i1, i2]
      exact ⟨rfl, rfl⟩
end RP
