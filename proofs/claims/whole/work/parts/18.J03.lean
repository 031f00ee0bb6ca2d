/-! ===== the reference cuts the whole tape ===== -/
def i64 (n : Nat) : Int64 := Int64.ofNat n
theorem ok_WJ {α : Type} {σ : aSt} {f : Nat → Nat → Int32} {a k : Nat} {v : Int64} {g : aSt → Option (α × aSt)} {Q : α → aSt → Prop} (h : Ok (g (mk (aWJ σ a k v) f)) Q) : Ok (lt (aWJ (mk σ f) a k v) g) Q := h
/-- stores alike but for ints and for names of tokens -/
def eJ (σ σ2 : aSt) : Prop := aP σ2 = aP σ ∧ ∀ k, aJ σ2 242 k = aJ σ 242 k
theorem eJ_rf {σ : aSt} : eJ σ σ := ⟨rfl, fun _ => rfl⟩
theorem eJ_tr {σ σ2 σ3 : aSt} (h1 : eJ σ σ2) (h2 : eJ σ2 σ3) : eJ σ σ3 := ⟨h2.1.trans h1.1, fun k => (h2.2 k).trans (h1.2 k)⟩
theorem eJ_W {σ : aSt} {k : Nat} {v : Int64} : eJ σ (aWJ σ 241 k v) := ⟨rfl, fun j => by
  show u2 (aJ σ) 241 k v 242 j = aJ σ 242 j
  exact u2_n (Or.inl (by decide))⟩
def rkk (t : Nat) : Nat := if t < 16 then 20 + t else if t = 16 then 4 else if t = 17 then 8 else if t = 18 then 9 else if t = 19 then 10 else if t = 24 then 6 else if t = 25 then 7 else if t = 26 then 3 else if t = 27 then 0 else if t < 24 then t - 9 else 2
def rkOK (t x : Nat) : Prop := x = rkk t ∨ (t = 26 ∧ x = 1)
def tokR (b : Nat → Nat) (len : Nat) (f : pln) (j : Nat) : Prop := ∃ x, rkOK (tTk b len j) x ∧ f 238 j = n32 x ∧ f 239 j = n32 (tPl b len j) ∧ (32 ≤ tTk b len j → f 240 j = n32 (tTk b len j - 32))
def RB (b : Nat → Nat) (len : Nat) (f : pln) : Prop := f 235 4 = n32 len ∧ ∀ j, j < len → f 237 j &&& 255 = n32 (b j) ∧ b j < 256
def eqK (f f' : pln) : Prop := ∀ a k, a ≠ 238 → a ≠ 239 → a ≠ 240 → (a ≠ 235 ∨ k ≠ 10) → f' a k = f a k
theorem eqK_tr {f g h : pln} (e1 : eqK f g) (e2 : eqK g h) : eqK f h := fun a k h1 h2 h3 h4 => (e2 a k h1 h2 h3 h4).trans (e1 a k h1 h2 h3 h4)
theorem RB_K {b : Nat → Nat} {len : Nat} {f f' : pln} (h : RB b len f) (e : eqK f f') : RB b len f' := ⟨(e _ _ (by omega) (by omega) (by omega) (by omega)).trans h.1, fun j hj => ⟨by rw [e 237 j (by omega) (by omega) (by omega) (by omega)]; exact (h.2 j hj).1, (h.2 j hj).2⟩⟩
def tokP (σ : aSt) (f : pln) (k x p v : Nat) (σ' : aSt) : Prop := ∃ σ2 f', σ' = mk σ2 f' ∧ eJ σ σ2 ∧ f' 238 k = n32 x ∧ f' 239 k = n32 p ∧ f' 240 k = n32 v ∧ f' 235 10 = n32 (k + 1) ∧ ∀ a j, (a ≠ 238 ∧ a ≠ 239 ∧ a ≠ 240) ∨ j ≠ k → (a ≠ 235 ∨ j ≠ 10) → f' a j = f a j
theorem lg_i64 {a c : Nat} (ha : a < 2 ^ 63) (hc : c < 2 ^ 63) : lg_cmp (i64 a) (i64 c) = 0 ↔ a = c := by
  have e1 : (i64 a).toInt = a := Int64.toInt_ofNat_of_lt ha
  have e2 : (i64 c).toInt = c := Int64.toInt_ofNat_of_lt hc
  unfold lg_cmp
  by_cases h1 : i64 a > i64 c
  · rw [if_pos h1]
    have h1' : i64 c < i64 a := h1
    rw [Int64.lt_iff_toInt_lt, e1, e2] at h1'
    constructor
    · intro h; exact absurd h (by decide)
    · intro h; omega
  · rw [if_neg h1]
    by_cases h2 : i64 a = i64 c
    · rw [if_pos h2]
      have := congrArg Int64.toInt h2
      rw [e1, e2] at this
      exact ⟨fun _ => by omega, fun _ => rfl⟩
    · rw [if_neg h2]
      constructor
      · intro h; exact absurd h (by decide)
      · intro h; rw [h] at h2; exact absurd rfl h2
theorem nmv_lt {b : Nat → Nat} {p : Nat} : ∀ n, (∀ i, i < n → pLt (b (p + i))) → nmv b p n < 27 ^ n := by
  intro n
  induction n with
  | zero => intro _; exact Nat.one_pos
  | succ n ih =>
    intro h
    have a := ih (fun i hi => h i (by omega))
    have c := h n (by omega)
    rw [nmv, Nat.pow_succ]
    omega
def lm (M : Nat → Bool) : Nat → Nat → Nat → Nat
  | 0, _, s => s
  | n + 1, k, s => lm M n (k + 1) (if M k = true then 20 + k else s)
theorem lm_no {M : Nat → Bool} : ∀ (n k s : Nat), (∀ j, k ≤ j → j < k + n → M j = false) → lm M n k s = s := by
  intro n
  induction n with
  | zero => intro k s _; rfl
  | succ n ih =>
    intro k s h
    rw [lm, if_neg (by rw [h k (by omega) (by omega)]; exact Bool.false_ne_true)]
    exact ih (k + 1) s (fun j h1 h2 => h j (by omega) (by omega))
theorem lm_fw {M : Nat → Bool} (u : ∀ j, j < 16 → ∀ j', j' < 16 → M j = true → M j' = true → j = j') : ∀ (n k s : Nat), k + n = 16 → lm M n k s = if fw M n k = 26 then s else 20 + fw M n k := by
  intro n
  induction n with
  | zero => intro k s _; rfl
  | succ n ih =>
    intro k s hk
    rw [lm, fw]
    by_cases h : M k = true
    · rw [if_pos h, if_pos h, if_neg (by omega)]
      refine lm_no n (k + 1) _ (fun j h1 h2 => ?_)
      cases e : M j with
      | false => rfl
      | true => have := u k (by omega) j (by omega) h e; omega
    · rw [if_neg h, if_neg h]
      exact ih (k + 1) s (by omega)
section RLX
variable {N len : Nat} {b : Nat → Nat}
theorem r_at {i : Nat} {σ : aSt} {f : pln} (hB : RB b len f) (hlen : len ≤ 2000) (hi : i < 5000) : F_X12_at N (n32 i) (mk σ f) = some (n32 (if i < len then b i else 0), mk σ f) := by
  have h0 := hB.1
  unfold F_X12_at J_X12_at_22
  by_cases h : i < len
  · obtain ⟨h1, h2⟩ := hB.2 i h
    rw [if_neg (by first | assumption | omega | (simp (disch := omega) only [n32_of, neg_n32_1, n32_nat, n32_lt, n32_le, n32_eq, n32_add, n32_sub, n32_mul, n32_m1, m1_n32, n32_addm1, m1_lt, lt_m1, m1_le, le_m1, m1_add1, ofNat_n32, u2_self, u2_n, mk_I, mk_T, ne_eq, not_true_eq_false, not_false_eq_true, h0]; first | done | omega)), cO_t (by first | assumption | omega | (simp (disch := omega) only [n32_of, neg_n32_1, n32_nat, n32_lt, n32_le, n32_eq, n32_add, n32_sub, n32_mul, n32_m1, m1_n32, n32_addm1, m1_lt, lt_m1, m1_le, le_m1, m1_add1, ofNat_n32, u2_self, u2_n, mk_I, mk_T, ne_eq, not_true_eq_false, not_false_eq_true, ]; first | done | omega)), if_pos h]
    show some (f 237 (n32 i).toNatClampNeg &&& 255, mk σ f) = _
    rw [n32_nat (by omega), h1]
  · rw [if_pos (by first | assumption | omega | (simp (disch := omega) only [n32_of, neg_n32_1, n32_nat, n32_lt, n32_le, n32_eq, n32_add, n32_sub, n32_mul, n32_m1, m1_n32, n32_addm1, m1_lt, lt_m1, m1_le, le_m1, m1_add1, ofNat_n32, u2_self, u2_n, mk_I, mk_T, ne_eq, not_true_eq_false, not_false_eq_true, h0]; first | done | omega)), if_neg h]
    rfl
theorem r_more {a c : Nat} {τ : aSt} (hc : pLt c) : F_X12_more N (i64 a) (n32 c) τ = some (i64 (27 * a + (c - 96)), τ) := by
  unfold F_X12_more J_X12_more_21
  have e1 : n32 c - 97 + 1 = n32 (c - 96) := by
    rw [show (97 : Int32) = n32 97 from rfl, show (1 : Int32) = n32 1 from rfl, n32_sub (by omega), n32_add]
    congr 1
    omega
  have e2 : ∀ d : Nat, d < 27 → (n32 d).toInt64 = i64 d := by decide +kernel
  rw [if_pos (by first | assumption | omega | (simp (disch := omega) only [n32_of, neg_n32_1, n32_nat, n32_lt, n32_le, n32_eq, n32_add, n32_sub, n32_mul, n32_m1, m1_n32, n32_addm1, m1_lt, lt_m1, m1_le, le_m1, m1_add1, ofNat_n32, u2_self, u2_n, mk_I, mk_T, ne_eq, not_true_eq_false, not_false_eq_true, ]; first | done | omega)), e1, e2 _ (by omega)]
  congr 2
  unfold i64
  rw [Int64.ofNat_add, Int64.ofNat_mul]
  rfl
theorem r_token {σ : aSt} {f : pln} {k x p v : Nat} {nm : Int64} (hk : k ≤ 400) (h10 : f 235 10 = n32 k) : Ok (F_X12_token N (n32 x) (n32 p) (n32 v) nm (mk σ f)) (fun _ σ' => tokP σ f k x p v σ') := by
  unfold F_X12_token
  repeat (first | with_reducible refine ok_W ?_ | with_reducible refine ok_cO (by first | assumption | omega | (simp (disch := omega) only [n32_of, neg_n32_1, n32_nat, n32_lt, n32_le, n32_eq, n32_add, n32_sub, n32_mul, n32_m1, m1_n32, n32_addm1, m1_lt, lt_m1, m1_le, le_m1, m1_add1, ofNat_n32, u2_self, u2_n, mk_I, mk_T, ne_eq, not_true_eq_false, not_false_eq_true, h10]; first | done | omega)) ?_ | with_reducible refine ok_ip (by first | assumption | omega | (simp (disch := omega) only [n32_of, neg_n32_1, n32_nat, n32_lt, n32_le, n32_eq, n32_add, n32_sub, n32_mul, n32_m1, m1_n32, n32_addm1, m1_lt, lt_m1, m1_le, le_m1, m1_add1, ofNat_n32, u2_self, u2_n, mk_I, mk_T, ne_eq, not_true_eq_false, not_false_eq_true, h10]; first | done | omega)) ?_ | with_reducible refine ok_in (by first | assumption | omega | (simp (disch := omega) only [n32_of, neg_n32_1, n32_nat, n32_lt, n32_le, n32_eq, n32_add, n32_sub, n32_mul, n32_m1, m1_n32, n32_addm1, m1_lt, lt_m1, m1_le, le_m1, m1_add1, ofNat_n32, u2_self, u2_n, mk_I, mk_T, ne_eq, not_true_eq_false, not_false_eq_true, h10]; first | done | omega)) ?_)
  refine ok_WJ ?_
  repeat (first | with_reducible refine ok_W ?_ | with_reducible refine ok_cO (by first | assumption | omega | (simp (disch := omega) only [n32_of, neg_n32_1, n32_nat, n32_lt, n32_le, n32_eq, n32_add, n32_sub, n32_mul, n32_m1, m1_n32, n32_addm1, m1_lt, lt_m1, m1_le, le_m1, m1_add1, ofNat_n32, u2_self, u2_n, mk_I, mk_T, ne_eq, not_true_eq_false, not_false_eq_true, h10]; first | done | omega)) ?_ | with_reducible refine ok_ip (by first | assumption | omega | (simp (disch := omega) only [n32_of, neg_n32_1, n32_nat, n32_lt, n32_le, n32_eq, n32_add, n32_sub, n32_mul, n32_m1, m1_n32, n32_addm1, m1_lt, lt_m1, m1_le, le_m1, m1_add1, ofNat_n32, u2_self, u2_n, mk_I, mk_T, ne_eq, not_true_eq_false, not_false_eq_true, h10]; first | done | omega)) ?_ | with_reducible refine ok_in (by first | assumption | omega | (simp (disch := omega) only [n32_of, neg_n32_1, n32_nat, n32_lt, n32_le, n32_eq, n32_add, n32_sub, n32_mul, n32_m1, m1_n32, n32_addm1, m1_lt, lt_m1, m1_le, le_m1, m1_add1, ofNat_n32, u2_self, u2_n, mk_I, mk_T, ne_eq, not_true_eq_false, not_false_eq_true, h10]; first | done | omega)) ?_)
  refine ok_some ⟨_, _, rfl, eJ_W, ?_, ?_, ?_, ?_, fun a j h1 h2 => ?_⟩
  · simp (disch := omega) only [n32_of, neg_n32_1, n32_nat, n32_lt, n32_le, n32_eq, n32_add, n32_sub, n32_mul, n32_m1, m1_n32, n32_addm1, m1_lt, lt_m1, m1_le, le_m1, m1_add1, ofNat_n32, u2_self, u2_n, mk_I, mk_T, h10]
  · simp (disch := omega) only [n32_of, neg_n32_1, n32_nat, n32_lt, n32_le, n32_eq, n32_add, n32_sub, n32_mul, n32_m1, m1_n32, n32_addm1, m1_lt, lt_m1, m1_le, le_m1, m1_add1, ofNat_n32, u2_self, u2_n, mk_I, mk_T, h10]
  · simp (disch := omega) only [n32_of, neg_n32_1, n32_nat, n32_lt, n32_le, n32_eq, n32_add, n32_sub, n32_mul, n32_m1, m1_n32, n32_addm1, m1_lt, lt_m1, m1_le, le_m1, m1_add1, ofNat_n32, u2_self, u2_n, mk_I, mk_T, h10]
  · simp (disch := omega) only [n32_of, neg_n32_1, n32_nat, n32_lt, n32_le, n32_eq, n32_add, n32_sub, n32_mul, n32_m1, m1_n32, n32_addm1, m1_lt, lt_m1, m1_le, le_m1, m1_add1, ofNat_n32, u2_self, u2_n, mk_I, mk_T, h10]
  · simp (disch := omega) only [n32_of, neg_n32_1, n32_nat, n32_lt, n32_le, n32_eq, n32_add, n32_sub, n32_mul, n32_m1, m1_n32, n32_addm1, m1_lt, lt_m1, m1_le, le_m1, m1_add1, ofNat_n32, u2_self, u2_n, mk_I, mk_T, h10]
theorem r_s148 {σ : aSt} {f : pln} {k i x4 x5 : Nat} (hk : k ≤ 400) (h10 : f 235 10 = n32 k) (hx : x4 < 100) : Ok (J_X12_sign_148 N (n32 i) (n32 x4) (n32 x5) (mk σ f)) (fun y σ' => y = n32 (if x4 = 0 then 1 else 2) ∧ tokP σ f k x5 i 0 σ') := by
  unfold J_X12_sign_148 J_X12_sign_167
  refine ok_oB (ok_mono (r_token (x := x5) (p := i) (v := 0) hk h10) (fun u σ' hq => ?_))
  by_cases h : x4 = 0
  · with_reducible refine ok_ip (by first | assumption | omega | (simp (disch := omega) only [n32_of, neg_n32_1, n32_nat, n32_lt, n32_le, n32_eq, n32_add, n32_sub, n32_mul, n32_m1, m1_n32, n32_addm1, m1_lt, lt_m1, m1_le, le_m1, m1_add1, ofNat_n32, u2_self, u2_n, mk_I, mk_T, ne_eq, not_true_eq_false, not_false_eq_true, ]; first | done | omega)) ?_
    rw [if_pos h]
    exact ok_some ⟨rfl, hq⟩
  · with_reducible refine ok_in (by first | assumption | omega | (simp (disch := omega) only [n32_of, neg_n32_1, n32_nat, n32_lt, n32_le, n32_eq, n32_add, n32_sub, n32_mul, n32_m1, m1_n32, n32_addm1, m1_lt, lt_m1, m1_le, le_m1, m1_add1, ofNat_n32, u2_self, u2_n, mk_I, mk_T, ne_eq, not_true_eq_false, not_false_eq_true, ]; first | done | omega)) ?_
    rw [if_neg h]
    exact ok_some ⟨rfl, hq⟩
theorem r_sign {σ : aSt} {f : pln} {k i c d : Nat} (hc : c < 256) (hd : d < 256) (hk : k ≤ 400) (h10 : f 235 10 = n32 k) : Ok (F_X12_sign N (n32 i) (n32 c) (n32 d) (mk σ f)) (fun y σ' => y = n32 (if d = 61 ∧ (c = 61 ∨ c = 33 ∨ c = 60) then 2 else 1) ∧ tokP σ f k (rkk (if d = 61 ∧ (c = 61 ∨ c = 33 ∨ c = 60) then sg2 c else sg1 c)) i 0 σ') := by
  have no : ¬ (d = 61 ∧ (c = 61 ∨ c = 33 ∨ c = 60)) → Ok (J_X12_sign_44 N (n32 i) (n32 c) (n32 0) (mk σ f)) (fun y σ' => y = n32 (if d = 61 ∧ (c = 61 ∨ c = 33 ∨ c = 60) then 2 else 1) ∧ tokP σ f k (rkk (if d = 61 ∧ (c = 61 ∨ c = 33 ∨ c = 60) then sg2 c else sg1 c)) i 0 σ') := by
    intro hn
    rw [if_neg hn, if_neg hn]
    unfold J_X12_sign_44
    with_reducible refine ok_ip (by first | assumption | omega | (simp (disch := omega) only [n32_of, neg_n32_1, n32_nat, n32_lt, n32_le, n32_eq, n32_add, n32_sub, n32_mul, n32_m1, m1_n32, n32_addm1, m1_lt, lt_m1, m1_le, le_m1, m1_add1, ofNat_n32, u2_self, u2_n, mk_I, mk_T, ne_eq, not_true_eq_false, not_false_eq_true, ]; first | done | omega)) ?_
    by_cases c1 : c = 59
    · subst c1; repeat (first | with_reducible refine ok_W ?_ | with_reducible refine ok_cO (by first | assumption | omega | (simp (disch := omega) only [n32_of, neg_n32_1, n32_nat, n32_lt, n32_le, n32_eq, n32_add, n32_sub, n32_mul, n32_m1, m1_n32, n32_addm1, m1_lt, lt_m1, m1_le, le_m1, m1_add1, ofNat_n32, u2_self, u2_n, mk_I, mk_T, ne_eq, not_true_eq_false, not_false_eq_true, ]; first | done | omega)) ?_ | with_reducible refine ok_ip (by first | assumption | omega | (simp (disch := omega) only [n32_of, neg_n32_1, n32_nat, n32_lt, n32_le, n32_eq, n32_add, n32_sub, n32_mul, n32_m1, m1_n32, n32_addm1, m1_lt, lt_m1, m1_le, le_m1, m1_add1, ofNat_n32, u2_self, u2_n, mk_I, mk_T, ne_eq, not_true_eq_false, not_false_eq_true, ]; first | done | omega)) ?_ | with_reducible refine ok_in (by first | assumption | omega | (simp (disch := omega) only [n32_of, neg_n32_1, n32_nat, n32_lt, n32_le, n32_eq, n32_add, n32_sub, n32_mul, n32_m1, m1_n32, n32_addm1, m1_lt, lt_m1, m1_le, le_m1, m1_add1, ofNat_n32, u2_self, u2_n, mk_I, mk_T, ne_eq, not_true_eq_false, not_false_eq_true, ]; first | done | omega)) ?_); exact r_s148 (x4 := 0) (x5 := 4) hk h10 (by omega)
    by_cases c2 : c = 40
    · subst c2; repeat (first | with_reducible refine ok_W ?_ | with_reducible refine ok_cO (by first | assumption | omega | (simp (disch := omega) only [n32_of, neg_n32_1, n32_nat, n32_lt, n32_le, n32_eq, n32_add, n32_sub, n32_mul, n32_m1, m1_n32, n32_addm1, m1_lt, lt_m1, m1_le, le_m1, m1_add1, ofNat_n32, u2_self, u2_n, mk_I, mk_T, ne_eq, not_true_eq_false, not_false_eq_true, ]; first | done | omega)) ?_ | with_reducible refine ok_ip (by first | assumption | omega | (simp (disch := omega) only [n32_of, neg_n32_1, n32_nat, n32_lt, n32_le, n32_eq, n32_add, n32_sub, n32_mul, n32_m1, m1_n32, n32_addm1, m1_lt, lt_m1, m1_le, le_m1, m1_add1, ofNat_n32, u2_self, u2_n, mk_I, mk_T, ne_eq, not_true_eq_false, not_false_eq_true, ]; first | done | omega)) ?_ | with_reducible refine ok_in (by first | assumption | omega | (simp (disch := omega) only [n32_of, neg_n32_1, n32_nat, n32_lt, n32_le, n32_eq, n32_add, n32_sub, n32_mul, n32_m1, m1_n32, n32_addm1, m1_lt, lt_m1, m1_le, le_m1, m1_add1, ofNat_n32, u2_self, u2_n, mk_I, mk_T, ne_eq, not_true_eq_false, not_false_eq_true, ]; first | done | omega)) ?_); exact r_s148 (x4 := 0) (x5 := 6) hk h10 (by omega)
    by_cases c3 : c = 41
    · subst c3; repeat (first | with_reducible refine ok_W ?_ | with_reducible refine ok_cO (by first | assumption | omega | (simp (disch := omega) only [n32_of, neg_n32_1, n32_nat, n32_lt, n32_le, n32_eq, n32_add, n32_sub, n32_mul, n32_m1, m1_n32, n32_addm1, m1_lt, lt_m1, m1_le, le_m1, m1_add1, ofNat_n32, u2_self, u2_n, mk_I, mk_T, ne_eq, not_true_eq_false, not_false_eq_true, ]; first | done | omega)) ?_ | with_reducible refine ok_ip (by first | assumption | omega | (simp (disch := omega) only [n32_of, neg_n32_1, n32_nat, n32_lt, n32_le, n32_eq, n32_add, n32_sub, n32_mul, n32_m1, m1_n32, n32_addm1, m1_lt, lt_m1, m1_le, le_m1, m1_add1, ofNat_n32, u2_self, u2_n, mk_I, mk_T, ne_eq, not_true_eq_false, not_false_eq_true, ]; first | done | omega)) ?_ | with_reducible refine ok_in (by first | assumption | omega | (simp (disch := omega) only [n32_of, neg_n32_1, n32_nat, n32_lt, n32_le, n32_eq, n32_add, n32_sub, n32_mul, n32_m1, m1_n32, n32_addm1, m1_lt, lt_m1, m1_le, le_m1, m1_add1, ofNat_n32, u2_self, u2_n, mk_I, mk_T, ne_eq, not_true_eq_false, not_false_eq_true, ]; first | done | omega)) ?_); exact r_s148 (x4 := 0) (x5 := 7) hk h10 (by omega)
    by_cases c4 : c = 43
    · subst c4; repeat (first | with_reducible refine ok_W ?_ | with_reducible refine ok_cO (by first | assumption | omega | (simp (disch := omega) only [n32_of, neg_n32_1, n32_nat, n32_lt, n32_le, n32_eq, n32_add, n32_sub, n32_mul, n32_m1, m1_n32, n32_addm1, m1_lt, lt_m1, m1_le, le_m1, m1_add1, ofNat_n32, u2_self, u2_n, mk_I, mk_T, ne_eq, not_true_eq_false, not_false_eq_true, ]; first | done | omega)) ?_ | with_reducible refine ok_ip (by first | assumption | omega | (simp (disch := omega) only [n32_of, neg_n32_1, n32_nat, n32_lt, n32_le, n32_eq, n32_add, n32_sub, n32_mul, n32_m1, m1_n32, n32_addm1, m1_lt, lt_m1, m1_le, le_m1, m1_add1, ofNat_n32, u2_self, u2_n, mk_I, mk_T, ne_eq, not_true_eq_false, not_false_eq_true, ]; first | done | omega)) ?_ | with_reducible refine ok_in (by first | assumption | omega | (simp (disch := omega) only [n32_of, neg_n32_1, n32_nat, n32_lt, n32_le, n32_eq, n32_add, n32_sub, n32_mul, n32_m1, m1_n32, n32_addm1, m1_lt, lt_m1, m1_le, le_m1, m1_add1, ofNat_n32, u2_self, u2_n, mk_I, mk_T, ne_eq, not_true_eq_false, not_false_eq_true, ]; first | done | omega)) ?_); exact r_s148 (x4 := 0) (x5 := 8) hk h10 (by omega)
    by_cases c5 : c = 45
    · subst c5; repeat (first | with_reducible refine ok_W ?_ | with_reducible refine ok_cO (by first | assumption | omega | (simp (disch := omega) only [n32_of, neg_n32_1, n32_nat, n32_lt, n32_le, n32_eq, n32_add, n32_sub, n32_mul, n32_m1, m1_n32, n32_addm1, m1_lt, lt_m1, m1_le, le_m1, m1_add1, ofNat_n32, u2_self, u2_n, mk_I, mk_T, ne_eq, not_true_eq_false, not_false_eq_true, ]; first | done | omega)) ?_ | with_reducible refine ok_ip (by first | assumption | omega | (simp (disch := omega) only [n32_of, neg_n32_1, n32_nat, n32_lt, n32_le, n32_eq, n32_add, n32_sub, n32_mul, n32_m1, m1_n32, n32_addm1, m1_lt, lt_m1, m1_le, le_m1, m1_add1, ofNat_n32, u2_self, u2_n, mk_I, mk_T, ne_eq, not_true_eq_false, not_false_eq_true, ]; first | done | omega)) ?_ | with_reducible refine ok_in (by first | assumption | omega | (simp (disch := omega) only [n32_of, neg_n32_1, n32_nat, n32_lt, n32_le, n32_eq, n32_add, n32_sub, n32_mul, n32_m1, m1_n32, n32_addm1, m1_lt, lt_m1, m1_le, le_m1, m1_add1, ofNat_n32, u2_self, u2_n, mk_I, mk_T, ne_eq, not_true_eq_false, not_false_eq_true, ]; first | done | omega)) ?_); exact r_s148 (x4 := 0) (x5 := 9) hk h10 (by omega)
    by_cases c6 : c = 42
    · subst c6; repeat (first | with_reducible refine ok_W ?_ | with_reducible refine ok_cO (by first | assumption | omega | (simp (disch := omega) only [n32_of, neg_n32_1, n32_nat, n32_lt, n32_le, n32_eq, n32_add, n32_sub, n32_mul, n32_m1, m1_n32, n32_addm1, m1_lt, lt_m1, m1_le, le_m1, m1_add1, ofNat_n32, u2_self, u2_n, mk_I, mk_T, ne_eq, not_true_eq_false, not_false_eq_true, ]; first | done | omega)) ?_ | with_reducible refine ok_ip (by first | assumption | omega | (simp (disch := omega) only [n32_of, neg_n32_1, n32_nat, n32_lt, n32_le, n32_eq, n32_add, n32_sub, n32_mul, n32_m1, m1_n32, n32_addm1, m1_lt, lt_m1, m1_le, le_m1, m1_add1, ofNat_n32, u2_self, u2_n, mk_I, mk_T, ne_eq, not_true_eq_false, not_false_eq_true, ]; first | done | omega)) ?_ | with_reducible refine ok_in (by first | assumption | omega | (simp (disch := omega) only [n32_of, neg_n32_1, n32_nat, n32_lt, n32_le, n32_eq, n32_add, n32_sub, n32_mul, n32_m1, m1_n32, n32_addm1, m1_lt, lt_m1, m1_le, le_m1, m1_add1, ofNat_n32, u2_self, u2_n, mk_I, mk_T, ne_eq, not_true_eq_false, not_false_eq_true, ]; first | done | omega)) ?_); exact r_s148 (x4 := 0) (x5 := 10) hk h10 (by omega)
    by_cases c7 : c = 60
    · subst c7; repeat (first | with_reducible refine ok_W ?_ | with_reducible refine ok_cO (by first | assumption | omega | (simp (disch := omega) only [n32_of, neg_n32_1, n32_nat, n32_lt, n32_le, n32_eq, n32_add, n32_sub, n32_mul, n32_m1, m1_n32, n32_addm1, m1_lt, lt_m1, m1_le, le_m1, m1_add1, ofNat_n32, u2_self, u2_n, mk_I, mk_T, ne_eq, not_true_eq_false, not_false_eq_true, ]; first | done | omega)) ?_ | with_reducible refine ok_ip (by first | assumption | omega | (simp (disch := omega) only [n32_of, neg_n32_1, n32_nat, n32_lt, n32_le, n32_eq, n32_add, n32_sub, n32_mul, n32_m1, m1_n32, n32_addm1, m1_lt, lt_m1, m1_le, le_m1, m1_add1, ofNat_n32, u2_self, u2_n, mk_I, mk_T, ne_eq, not_true_eq_false, not_false_eq_true, ]; first | done | omega)) ?_ | with_reducible refine ok_in (by first | assumption | omega | (simp (disch := omega) only [n32_of, neg_n32_1, n32_nat, n32_lt, n32_le, n32_eq, n32_add, n32_sub, n32_mul, n32_m1, m1_n32, n32_addm1, m1_lt, lt_m1, m1_le, le_m1, m1_add1, ofNat_n32, u2_self, u2_n, mk_I, mk_T, ne_eq, not_true_eq_false, not_false_eq_true, ]; first | done | omega)) ?_); exact r_s148 (x4 := 0) (x5 := 13) hk h10 (by omega)
    have e : rkk (sg1 c) = 3 := by
      unfold sg1
      rw [if_neg c2, if_neg c3, if_neg c6, if_neg c4, if_neg c5, if_neg c1, if_neg c7]
      rfl
    rw [e]
    repeat (first | with_reducible refine ok_W ?_ | with_reducible refine ok_cO (by first | assumption | omega | (simp (disch := omega) only [n32_of, neg_n32_1, n32_nat, n32_lt, n32_le, n32_eq, n32_add, n32_sub, n32_mul, n32_m1, m1_n32, n32_addm1, m1_lt, lt_m1, m1_le, le_m1, m1_add1, ofNat_n32, u2_self, u2_n, mk_I, mk_T, ne_eq, not_true_eq_false, not_false_eq_true, ]; first | done | omega)) ?_ | with_reducible refine ok_ip (by first | assumption | omega | (simp (disch := omega) only [n32_of, neg_n32_1, n32_nat, n32_lt, n32_le, n32_eq, n32_add, n32_sub, n32_mul, n32_m1, m1_n32, n32_addm1, m1_lt, lt_m1, m1_le, le_m1, m1_add1, ofNat_n32, u2_self, u2_n, mk_I, mk_T, ne_eq, not_true_eq_false, not_false_eq_true, ]; first | done | omega)) ?_ | with_reducible refine ok_in (by first | assumption | omega | (simp (disch := omega) only [n32_of, neg_n32_1, n32_nat, n32_lt, n32_le, n32_eq, n32_add, n32_sub, n32_mul, n32_m1, m1_n32, n32_addm1, m1_lt, lt_m1, m1_le, le_m1, m1_add1, ofNat_n32, u2_self, u2_n, mk_I, mk_T, ne_eq, not_true_eq_false, not_false_eq_true, ]; first | done | omega)) ?_)
    exact r_s148 (x4 := 0) (x5 := 3) hk h10 (by omega)
  unfold F_X12_sign
  by_cases h61 : d = 61
  · subst h61
    with_reducible refine ok_ip (by first | assumption | omega | (simp (disch := omega) only [n32_of, neg_n32_1, n32_nat, n32_lt, n32_le, n32_eq, n32_add, n32_sub, n32_mul, n32_m1, m1_n32, n32_addm1, m1_lt, lt_m1, m1_le, le_m1, m1_add1, ofNat_n32, u2_self, u2_n, mk_I, mk_T, ne_eq, not_true_eq_false, not_false_eq_true, ]; first | done | omega)) ?_
    by_cases c1 : c = 61
    · subst c1; repeat (first | with_reducible refine ok_W ?_ | with_reducible refine ok_cO (by first | assumption | omega | (simp (disch := omega) only [n32_of, neg_n32_1, n32_nat, n32_lt, n32_le, n32_eq, n32_add, n32_sub, n32_mul, n32_m1, m1_n32, n32_addm1, m1_lt, lt_m1, m1_le, le_m1, m1_add1, ofNat_n32, u2_self, u2_n, mk_I, mk_T, ne_eq, not_true_eq_false, not_false_eq_true, ]; first | done | omega)) ?_ | with_reducible refine ok_ip (by first | assumption | omega | (simp (disch := omega) only [n32_of, neg_n32_1, n32_nat, n32_lt, n32_le, n32_eq, n32_add, n32_sub, n32_mul, n32_m1, m1_n32, n32_addm1, m1_lt, lt_m1, m1_le, le_m1, m1_add1, ofNat_n32, u2_self, u2_n, mk_I, mk_T, ne_eq, not_true_eq_false, not_false_eq_true, ]; first | done | omega)) ?_ | with_reducible refine ok_in (by first | assumption | omega | (simp (disch := omega) only [n32_of, neg_n32_1, n32_nat, n32_lt, n32_le, n32_eq, n32_add, n32_sub, n32_mul, n32_m1, m1_n32, n32_addm1, m1_lt, lt_m1, m1_le, le_m1, m1_add1, ofNat_n32, u2_self, u2_n, mk_I, mk_T, ne_eq, not_true_eq_false, not_false_eq_true, ]; first | done | omega)) ?_); unfold J_X12_sign_44; repeat (first | with_reducible refine ok_W ?_ | with_reducible refine ok_cO (by first | assumption | omega | (simp (disch := omega) only [n32_of, neg_n32_1, n32_nat, n32_lt, n32_le, n32_eq, n32_add, n32_sub, n32_mul, n32_m1, m1_n32, n32_addm1, m1_lt, lt_m1, m1_le, le_m1, m1_add1, ofNat_n32, u2_self, u2_n, mk_I, mk_T, ne_eq, not_true_eq_false, not_false_eq_true, ]; first | done | omega)) ?_ | with_reducible refine ok_ip (by first | assumption | omega | (simp (disch := omega) only [n32_of, neg_n32_1, n32_nat, n32_lt, n32_le, n32_eq, n32_add, n32_sub, n32_mul, n32_m1, m1_n32, n32_addm1, m1_lt, lt_m1, m1_le, le_m1, m1_add1, ofNat_n32, u2_self, u2_n, mk_I, mk_T, ne_eq, not_true_eq_false, not_false_eq_true, ]; first | done | omega)) ?_ | with_reducible refine ok_in (by first | assumption | omega | (simp (disch := omega) only [n32_of, neg_n32_1, n32_nat, n32_lt, n32_le, n32_eq, n32_add, n32_sub, n32_mul, n32_m1, m1_n32, n32_addm1, m1_lt, lt_m1, m1_le, le_m1, m1_add1, ofNat_n32, u2_self, u2_n, mk_I, mk_T, ne_eq, not_true_eq_false, not_false_eq_true, ]; first | done | omega)) ?_); exact r_s148 (x4 := 11) (x5 := 11) hk h10 (by omega)
    by_cases c2 : c = 33
    · subst c2; repeat (first | with_reducible refine ok_W ?_ | with_reducible refine ok_cO (by first | assumption | omega | (simp (disch := omega) only [n32_of, neg_n32_1, n32_nat, n32_lt, n32_le, n32_eq, n32_add, n32_sub, n32_mul, n32_m1, m1_n32, n32_addm1, m1_lt, lt_m1, m1_le, le_m1, m1_add1, ofNat_n32, u2_self, u2_n, mk_I, mk_T, ne_eq, not_true_eq_false, not_false_eq_true, ]; first | done | omega)) ?_ | with_reducible refine ok_ip (by first | assumption | omega | (simp (disch := omega) only [n32_of, neg_n32_1, n32_nat, n32_lt, n32_le, n32_eq, n32_add, n32_sub, n32_mul, n32_m1, m1_n32, n32_addm1, m1_lt, lt_m1, m1_le, le_m1, m1_add1, ofNat_n32, u2_self, u2_n, mk_I, mk_T, ne_eq, not_true_eq_false, not_false_eq_true, ]; first | done | omega)) ?_ | with_reducible refine ok_in (by first | assumption | omega | (simp (disch := omega) only [n32_of, neg_n32_1, n32_nat, n32_lt, n32_le, n32_eq, n32_add, n32_sub, n32_mul, n32_m1, m1_n32, n32_addm1, m1_lt, lt_m1, m1_le, le_m1, m1_add1, ofNat_n32, u2_self, u2_n, mk_I, mk_T, ne_eq, not_true_eq_false, not_false_eq_true, ]; first | done | omega)) ?_); unfold J_X12_sign_44; repeat (first | with_reducible refine ok_W ?_ | with_reducible refine ok_cO (by first | assumption | omega | (simp (disch := omega) only [n32_of, neg_n32_1, n32_nat, n32_lt, n32_le, n32_eq, n32_add, n32_sub, n32_mul, n32_m1, m1_n32, n32_addm1, m1_lt, lt_m1, m1_le, le_m1, m1_add1, ofNat_n32, u2_self, u2_n, mk_I, mk_T, ne_eq, not_true_eq_false, not_false_eq_true, ]; first | done | omega)) ?_ | with_reducible refine ok_ip (by first | assumption | omega | (simp (disch := omega) only [n32_of, neg_n32_1, n32_nat, n32_lt, n32_le, n32_eq, n32_add, n32_sub, n32_mul, n32_m1, m1_n32, n32_addm1, m1_lt, lt_m1, m1_le, le_m1, m1_add1, ofNat_n32, u2_self, u2_n, mk_I, mk_T, ne_eq, not_true_eq_false, not_false_eq_true, ]; first | done | omega)) ?_ | with_reducible refine ok_in (by first | assumption | omega | (simp (disch := omega) only [n32_of, neg_n32_1, n32_nat, n32_lt, n32_le, n32_eq, n32_add, n32_sub, n32_mul, n32_m1, m1_n32, n32_addm1, m1_lt, lt_m1, m1_le, le_m1, m1_add1, ofNat_n32, u2_self, u2_n, mk_I, mk_T, ne_eq, not_true_eq_false, not_false_eq_true, ]; first | done | omega)) ?_); exact r_s148 (x4 := 12) (x5 := 12) hk h10 (by omega)
    by_cases c3 : c = 60
    · subst c3; repeat (first | with_reducible refine ok_W ?_ | with_reducible refine ok_cO (by first | assumption | omega | (simp (disch := omega) only [n32_of, neg_n32_1, n32_nat, n32_lt, n32_le, n32_eq, n32_add, n32_sub, n32_mul, n32_m1, m1_n32, n32_addm1, m1_lt, lt_m1, m1_le, le_m1, m1_add1, ofNat_n32, u2_self, u2_n, mk_I, mk_T, ne_eq, not_true_eq_false, not_false_eq_true, ]; first | done | omega)) ?_ | with_reducible refine ok_ip (by first | assumption | omega | (simp (disch := omega) only [n32_of, neg_n32_1, n32_nat, n32_lt, n32_le, n32_eq, n32_add, n32_sub, n32_mul, n32_m1, m1_n32, n32_addm1, m1_lt, lt_m1, m1_le, le_m1, m1_add1, ofNat_n32, u2_self, u2_n, mk_I, mk_T, ne_eq, not_true_eq_false, not_false_eq_true, ]; first | done | omega)) ?_ | with_reducible refine ok_in (by first | assumption | omega | (simp (disch := omega) only [n32_of, neg_n32_1, n32_nat, n32_lt, n32_le, n32_eq, n32_add, n32_sub, n32_mul, n32_m1, m1_n32, n32_addm1, m1_lt, lt_m1, m1_le, le_m1, m1_add1, ofNat_n32, u2_self, u2_n, mk_I, mk_T, ne_eq, not_true_eq_false, not_false_eq_true, ]; first | done | omega)) ?_); unfold J_X12_sign_44; repeat (first | with_reducible refine ok_W ?_ | with_reducible refine ok_cO (by first | assumption | omega | (simp (disch := omega) only [n32_of, neg_n32_1, n32_nat, n32_lt, n32_le, n32_eq, n32_add, n32_sub, n32_mul, n32_m1, m1_n32, n32_addm1, m1_lt, lt_m1, m1_le, le_m1, m1_add1, ofNat_n32, u2_self, u2_n, mk_I, mk_T, ne_eq, not_true_eq_false, not_false_eq_true, ]; first | done | omega)) ?_ | with_reducible refine ok_ip (by first | assumption | omega | (simp (disch := omega) only [n32_of, neg_n32_1, n32_nat, n32_lt, n32_le, n32_eq, n32_add, n32_sub, n32_mul, n32_m1, m1_n32, n32_addm1, m1_lt, lt_m1, m1_le, le_m1, m1_add1, ofNat_n32, u2_self, u2_n, mk_I, mk_T, ne_eq, not_true_eq_false, not_false_eq_true, ]; first | done | omega)) ?_ | with_reducible refine ok_in (by first | assumption | omega | (simp (disch := omega) only [n32_of, neg_n32_1, n32_nat, n32_lt, n32_le, n32_eq, n32_add, n32_sub, n32_mul, n32_m1, m1_n32, n32_addm1, m1_lt, lt_m1, m1_le, le_m1, m1_add1, ofNat_n32, u2_self, u2_n, mk_I, mk_T, ne_eq, not_true_eq_false, not_false_eq_true, ]; first | done | omega)) ?_); exact r_s148 (x4 := 14) (x5 := 14) hk h10 (by omega)
    repeat (first | with_reducible refine ok_W ?_ | with_reducible refine ok_cO (by first | assumption | omega | (simp (disch := omega) only [n32_of, neg_n32_1, n32_nat, n32_lt, n32_le, n32_eq, n32_add, n32_sub, n32_mul, n32_m1, m1_n32, n32_addm1, m1_lt, lt_m1, m1_le, le_m1, m1_add1, ofNat_n32, u2_self, u2_n, mk_I, mk_T, ne_eq, not_true_eq_false, not_false_eq_true, ]; first | done | omega)) ?_ | with_reducible refine ok_ip (by first | assumption | omega | (simp (disch := omega) only [n32_of, neg_n32_1, n32_nat, n32_lt, n32_le, n32_eq, n32_add, n32_sub, n32_mul, n32_m1, m1_n32, n32_addm1, m1_lt, lt_m1, m1_le, le_m1, m1_add1, ofNat_n32, u2_self, u2_n, mk_I, mk_T, ne_eq, not_true_eq_false, not_false_eq_true, ]; first | done | omega)) ?_ | with_reducible refine ok_in (by first | assumption | omega | (simp (disch := omega) only [n32_of, neg_n32_1, n32_nat, n32_lt, n32_le, n32_eq, n32_add, n32_sub, n32_mul, n32_m1, m1_n32, n32_addm1, m1_lt, lt_m1, m1_le, le_m1, m1_add1, ofNat_n32, u2_self, u2_n, mk_I, mk_T, ne_eq, not_true_eq_false, not_false_eq_true, ]; first | done | omega)) ?_)
    exact no (by omega)
  · with_reducible refine ok_in (by first | assumption | omega | (simp (disch := omega) only [n32_of, neg_n32_1, n32_nat, n32_lt, n32_le, n32_eq, n32_add, n32_sub, n32_mul, n32_m1, m1_n32, n32_addm1, m1_lt, lt_m1, m1_le, le_m1, m1_add1, ofNat_n32, u2_self, u2_n, mk_I, mk_T, ne_eq, not_true_eq_false, not_false_eq_true, ]; first | done | omega)) ?_
    exact no (by omega)
theorem r_lte {σ : aSt} {f : pln} {i : Nat} {k7 : Int32 → aSt → Option (Unit × aSt)} {Q : Unit → aSt → Prop} (hB : RB b len f) (hlen : len ≤ 2000) (K : Ok (J_X12_cut_135 N k7 (n32 i) (n32 (lte b len i - i)) (i64 (nmv b i (min (lte b len i - i) 8))) (if lte b len i - i ≤ 8 then n32 1 else n32 3) (mk σ f)) Q) : ∀ (n m : Nat), len - (i + m) < n → i + m ≤ len → lte b len (i + m) = lte b len i → Ok (H_X12_cut_85 N k7 n (n32 i) (n32 m) (i64 (nmv b i (min m 8))) (mk σ f)) Q := by
  intro n
  induction n with
  | zero => intro m h; omega
  | succ n ih =>
    intro m hn hm he
    rw [H_X12_cut_85, n32_add, r_at hB hlen (by omega)]
    refine ok_oB (ok_some ?_)
    by_cases hl : i + m < len
    · have hb2 := (hB.2 (i + m) hl).2
      rw [if_pos hl, t_ltR hb2]
      refine ok_oB (ok_some ?_)
      by_cases hp : pLt (b (i + m))
      · refine ok_in (yz hp) ?_
        have es : lte b len (i + (m + 1)) = lte b len i := by
          rw [← he]
          unfold lte
          rw [rn_s hl (decide_eq_true hp)]
          rfl
        unfold J_X12_cut_118
        by_cases h8 : 8 ≤ m
        · with_reducible refine ok_ip (by first | assumption | omega | (simp (disch := omega) only [n32_of, neg_n32_1, n32_nat, n32_lt, n32_le, n32_eq, n32_add, n32_sub, n32_mul, n32_m1, m1_n32, n32_addm1, m1_lt, lt_m1, m1_le, le_m1, m1_add1, ofNat_n32, u2_self, u2_n, mk_I, mk_T, ne_eq, not_true_eq_false, not_false_eq_true, ]; first | done | omega)) ?_
          simp (disch := omega) only [n32_of, neg_n32_1, n32_nat, n32_lt, n32_le, n32_eq, n32_add, n32_sub, n32_mul, n32_m1, m1_n32, n32_addm1, m1_lt, lt_m1, m1_le, le_m1, m1_add1, ofNat_n32, u2_self, u2_n, mk_I, mk_T, ]
          have := ih (m + 1) (by omega) (by omega) es
          rw [show min (m + 1) 8 = min m 8 by omega] at this
          exact this
        · with_reducible refine ok_in (by first | assumption | omega | (simp (disch := omega) only [n32_of, neg_n32_1, n32_nat, n32_lt, n32_le, n32_eq, n32_add, n32_sub, n32_mul, n32_m1, m1_n32, n32_addm1, m1_lt, lt_m1, m1_le, le_m1, m1_add1, ofNat_n32, u2_self, u2_n, mk_I, mk_T, ne_eq, not_true_eq_false, not_false_eq_true, ]; first | done | omega)) ?_
          rw [r_at hB hlen (by omega)]
          refine ok_oB (ok_some ?_)
          rw [if_pos hl, r_more hp]
          refine ok_oB (ok_some ?_)
          simp (disch := omega) only [n32_of, neg_n32_1, n32_nat, n32_lt, n32_le, n32_eq, n32_add, n32_sub, n32_mul, n32_m1, m1_n32, n32_addm1, m1_lt, lt_m1, m1_le, le_m1, m1_add1, ofNat_n32, u2_self, u2_n, mk_I, mk_T, ]
          have := ih (m + 1) (by omega) (by omega) es
          rw [show min (m + 1) 8 = min m 8 + 1 by omega, nmv, show min m 8 = m by omega] at this
          rw [show min m 8 = m by omega]
          exact this
      · refine ok_ip (nz hp) ?_
        have ee : lte b len i = i + m := by
          rw [← he]
          unfold lte
          rw [rn_e (Or.inr (decide_eq_false hp))]
        rw [ee, show i + m - i = m by omega] at K
        by_cases h8 : m ≤ 8
        · with_reducible refine ok_ip (by first | assumption | omega | (simp (disch := omega) only [n32_of, neg_n32_1, n32_nat, n32_lt, n32_le, n32_eq, n32_add, n32_sub, n32_mul, n32_m1, m1_n32, n32_addm1, m1_lt, lt_m1, m1_le, le_m1, m1_add1, ofNat_n32, u2_self, u2_n, mk_I, mk_T, ne_eq, not_true_eq_false, not_false_eq_true, ]; first | done | omega)) ?_
          rw [if_pos h8] at K
          exact K
        · with_reducible refine ok_in (by first | assumption | omega | (simp (disch := omega) only [n32_of, neg_n32_1, n32_nat, n32_lt, n32_le, n32_eq, n32_add, n32_sub, n32_mul, n32_m1, m1_n32, n32_addm1, m1_lt, lt_m1, m1_le, le_m1, m1_add1, ofNat_n32, u2_self, u2_n, mk_I, mk_T, ne_eq, not_true_eq_false, not_false_eq_true, ]; first | done | omega)) ?_
          rw [if_neg h8] at K
          exact K
    · rw [if_neg hl, t_ltR (by omega)]
      refine ok_oB (ok_some ?_)
      refine ok_ip (nz (by omega)) ?_
      have ee : lte b len i = i + m := by
        rw [← he]
        unfold lte
        rw [rn_e (Or.inl (by omega))]
      rw [ee, show i + m - i = m by omega] at K
      by_cases h8 : m ≤ 8
      · with_reducible refine ok_ip (by first | assumption | omega | (simp (disch := omega) only [n32_of, neg_n32_1, n32_nat, n32_lt, n32_le, n32_eq, n32_add, n32_sub, n32_mul, n32_m1, m1_n32, n32_addm1, m1_lt, lt_m1, m1_le, le_m1, m1_add1, ofNat_n32, u2_self, u2_n, mk_I, mk_T, ne_eq, not_true_eq_false, not_false_eq_true, ]; first | done | omega)) ?_
        rw [if_pos h8] at K
        exact K
      · with_reducible refine ok_in (by first | assumption | omega | (simp (disch := omega) only [n32_of, neg_n32_1, n32_nat, n32_lt, n32_le, n32_eq, n32_add, n32_sub, n32_mul, n32_m1, m1_n32, n32_addm1, m1_lt, lt_m1, m1_le, le_m1, m1_add1, ofNat_n32, u2_self, u2_n, mk_I, mk_T, ne_eq, not_true_eq_false, not_false_eq_true, ]; first | done | omega)) ?_
        rw [if_neg h8] at K
        exact K
theorem r_dge {σ : aSt} {f : pln} {i : Nat} {k7 : Int32 → aSt → Option (Unit × aSt)} {Q : Unit → aSt → Prop} (hB : RB b len f) (hlen : len ≤ 2000) (K : Ok (J_X12_cut_261 N k7 (n32 i) (n32 (dge b len i - i)) (n32 (iv b i (min (dge b len i - i) 4))) (if dge b len i - i ≤ 4 then n32 2 else n32 3) (mk σ f)) Q) : ∀ (n m : Nat), len - (i + m) < n → i + m ≤ len → dge b len (i + m) = dge b len i → Ok (H_X12_cut_208 N k7 n (n32 i) (n32 m) (n32 (iv b i (min m 4))) (mk σ f)) Q := by
  intro n
  induction n with
  | zero => intro m h; omega
  | succ n ih =>
    intro m hn hm he
    rw [H_X12_cut_208, n32_add, r_at hB hlen (by omega)]
    refine ok_oB (ok_some ?_)
    by_cases hl : i + m < len
    · have hb2 := (hB.2 (i + m) hl).2
      rw [if_pos hl, t_dgR hb2]
      refine ok_oB (ok_some ?_)
      by_cases hp : pDg (b (i + m))
      · refine ok_in (yz hp) ?_
        have es : dge b len (i + (m + 1)) = dge b len i := by
          rw [← he]
          unfold dge
          rw [rn_s hl (decide_eq_true hp)]
          rfl
        unfold J_X12_cut_244
        by_cases h8 : 4 ≤ m
        · with_reducible refine ok_ip (by first | assumption | omega | (simp (disch := omega) only [n32_of, neg_n32_1, n32_nat, n32_lt, n32_le, n32_eq, n32_add, n32_sub, n32_mul, n32_m1, m1_n32, n32_addm1, m1_lt, lt_m1, m1_le, le_m1, m1_add1, ofNat_n32, u2_self, u2_n, mk_I, mk_T, ne_eq, not_true_eq_false, not_false_eq_true, ]; first | done | omega)) ?_
          simp (disch := omega) only [n32_of, neg_n32_1, n32_nat, n32_lt, n32_le, n32_eq, n32_add, n32_sub, n32_mul, n32_m1, m1_n32, n32_addm1, m1_lt, lt_m1, m1_le, le_m1, m1_add1, ofNat_n32, u2_self, u2_n, mk_I, mk_T, ]
          have := ih (m + 1) (by omega) (by omega) es
          rw [show min (m + 1) 4 = min m 4 by omega] at this
          exact this
        · with_reducible refine ok_in (by first | assumption | omega | (simp (disch := omega) only [n32_of, neg_n32_1, n32_nat, n32_lt, n32_le, n32_eq, n32_add, n32_sub, n32_mul, n32_m1, m1_n32, n32_addm1, m1_lt, lt_m1, m1_le, le_m1, m1_add1, ofNat_n32, u2_self, u2_n, mk_I, mk_T, ne_eq, not_true_eq_false, not_false_eq_true, ]; first | done | omega)) ?_
          rw [r_at hB hlen (by omega)]
          refine ok_oB (ok_some ?_)
          rw [if_pos hl]
          have := ih (m + 1) (by omega) (by omega) es
          rw [show min (m + 1) 4 = min m 4 + 1 by omega, iv, show min m 4 = m by omega] at this
          rw [show min m 4 = m by omega]
          have ev : (10 * n32 (iv b i m) + n32 (b (i + m))) - 48 = n32 (iv b i m * 10 + (b (i + m) - 48)) := by
            rw [show (10 : Int32) = n32 10 from rfl, show (48 : Int32) = n32 48 from rfl, n32_mul, n32_add, n32_sub (by omega)]
            congr 1
            omega
          rw [ev]
          simp (disch := omega) only [n32_of, neg_n32_1, n32_nat, n32_lt, n32_le, n32_eq, n32_add, n32_sub, n32_mul, n32_m1, m1_n32, n32_addm1, m1_lt, lt_m1, m1_le, le_m1, m1_add1, ofNat_n32, u2_self, u2_n, mk_I, mk_T, ]
          exact this
      · refine ok_ip (nz hp) ?_
        have ee : dge b len i = i + m := by
          rw [← he]
          unfold dge
          rw [rn_e (Or.inr (decide_eq_false hp))]
        rw [ee, show i + m - i = m by omega] at K
        by_cases h8 : m ≤ 4
        · with_reducible refine ok_ip (by first | assumption | omega | (simp (disch := omega) only [n32_of, neg_n32_1, n32_nat, n32_lt, n32_le, n32_eq, n32_add, n32_sub, n32_mul, n32_m1, m1_n32, n32_addm1, m1_lt, lt_m1, m1_le, le_m1, m1_add1, ofNat_n32, u2_self, u2_n, mk_I, mk_T, ne_eq, not_true_eq_false, not_false_eq_true, ]; first | done | omega)) ?_
          rw [if_pos h8] at K
          exact K
        · with_reducible refine ok_in (by first | assumption | omega | (simp (disch := omega) only [n32_of, neg_n32_1, n32_nat, n32_lt, n32_le, n32_eq, n32_add, n32_sub, n32_mul, n32_m1, m1_n32, n32_addm1, m1_lt, lt_m1, m1_le, le_m1, m1_add1, ofNat_n32, u2_self, u2_n, mk_I, mk_T, ne_eq, not_true_eq_false, not_false_eq_true, ]; first | done | omega)) ?_
          rw [if_neg h8] at K
          exact K
    · rw [if_neg hl, t_dgR (by omega)]
      refine ok_oB (ok_some ?_)
      refine ok_ip (nz (by omega)) ?_
      have ee : dge b len i = i + m := by
        rw [← he]
        unfold dge
        rw [rn_e (Or.inl (by omega))]
      rw [ee, show i + m - i = m by omega] at K
      by_cases h8 : m ≤ 4
      · with_reducible refine ok_ip (by first | assumption | omega | (simp (disch := omega) only [n32_of, neg_n32_1, n32_nat, n32_lt, n32_le, n32_eq, n32_add, n32_sub, n32_mul, n32_m1, m1_n32, n32_addm1, m1_lt, lt_m1, m1_le, le_m1, m1_add1, ofNat_n32, u2_self, u2_n, mk_I, mk_T, ne_eq, not_true_eq_false, not_false_eq_true, ]; first | done | omega)) ?_
        rw [if_pos h8] at K
        exact K
      · with_reducible refine ok_in (by first | assumption | omega | (simp (disch := omega) only [n32_of, neg_n32_1, n32_nat, n32_lt, n32_le, n32_eq, n32_add, n32_sub, n32_mul, n32_m1, m1_n32, n32_addm1, m1_lt, lt_m1, m1_le, le_m1, m1_add1, ofNat_n32, u2_self, u2_n, mk_I, mk_T, ne_eq, not_true_eq_false, not_false_eq_true, ]; first | done | omega)) ?_
        rw [if_neg h8] at K
        exact K
theorem r_keys {σ : aSt} {f : pln} {i m v : Nat} {k7 : Int32 → aSt → Option (Unit × aSt)} {Q : Unit → aSt → Prop} (hky : ∀ k, k < 16 → aJ σ 242 k = i64 (kyw k)) (hv : v < 2 ^ 63) : ∀ (n k s : Nat), 16 - k < n → k ≤ 16 → Ok (J_X12_cut_179 N k7 (n32 i) (n32 m) (i64 v) (n32 (lm (fun w => decide (kyw w = v)) (16 - k) k s)) (mk σ f)) Q → Ok (H_X12_cut_146 N k7 n (n32 i) (n32 m) (i64 v) (n32 s) (n32 k) (mk σ f)) Q := by
  have kb : ∀ k, k < 16 → kyw k < 2 ^ 63 := by decide +kernel
  intro n
  induction n with
  | zero => intro k s h; omega
  | succ n ih =>
    intro k s hn hk K
    rw [H_X12_cut_146]
    by_cases h16 : k = 16
    · with_reducible refine ok_ip (by first | assumption | omega | (simp (disch := omega) only [n32_of, neg_n32_1, n32_nat, n32_lt, n32_le, n32_eq, n32_add, n32_sub, n32_mul, n32_m1, m1_n32, n32_addm1, m1_lt, lt_m1, m1_le, le_m1, m1_add1, ofNat_n32, u2_self, u2_n, mk_I, mk_T, ne_eq, not_true_eq_false, not_false_eq_true, ]; first | done | omega)) ?_
      subst h16
      exact K
    · with_reducible refine ok_in (by first | assumption | omega | (simp (disch := omega) only [n32_of, neg_n32_1, n32_nat, n32_lt, n32_le, n32_eq, n32_add, n32_sub, n32_mul, n32_m1, m1_n32, n32_addm1, m1_lt, lt_m1, m1_le, le_m1, m1_add1, ofNat_n32, u2_self, u2_n, mk_I, mk_T, ne_eq, not_true_eq_false, not_false_eq_true, ]; first | done | omega)) ?_
      with_reducible refine ok_cO (by first | assumption | omega | (simp (disch := omega) only [n32_of, neg_n32_1, n32_nat, n32_lt, n32_le, n32_eq, n32_add, n32_sub, n32_mul, n32_m1, m1_n32, n32_addm1, m1_lt, lt_m1, m1_le, le_m1, m1_add1, ofNat_n32, u2_self, u2_n, mk_I, mk_T, ne_eq, not_true_eq_false, not_false_eq_true, ]; first | done | omega)) ?_
      rw [n32_nat (by omega), mk_J, hky k (by omega)]
      unfold J_X12_cut_173
      rw [show 16 - k = (16 - (k + 1)) + 1 by omega, lm] at K
      have c := lg_i64 (kb k (by omega)) hv
      by_cases hc : kyw k = v
      · refine ok_in (fun q => q (c.mpr hc)) ?_
        rw [if_pos (decide_eq_true hc)] at K
        simp (disch := omega) only [n32_of, neg_n32_1, n32_nat, n32_lt, n32_le, n32_eq, n32_add, n32_sub, n32_mul, n32_m1, m1_n32, n32_addm1, m1_lt, lt_m1, m1_le, le_m1, m1_add1, ofNat_n32, u2_self, u2_n, mk_I, mk_T, ]
        exact ih (k + 1) (20 + k) (by omega) (by omega) K
      · refine ok_ip (fun q => hc (c.mp q)) ?_
        rw [if_neg (by simpa using hc)] at K
        simp (disch := omega) only [n32_of, neg_n32_1, n32_nat, n32_lt, n32_le, n32_eq, n32_add, n32_sub, n32_mul, n32_m1, m1_n32, n32_addm1, m1_lt, lt_m1, m1_le, le_m1, m1_add1, ofNat_n32, u2_self, u2_n, mk_I, mk_T, ]
        exact ih (k + 1) s (by omega) (by omega) K
def cutQ (b : Nat → Nat) (len : Nat) (σ : aSt) (f : pln) (σ' : aSt) : Prop := ∃ σ2 f', σ' = mk σ2 f' ∧ eJ σ σ2 ∧ eqK f f' ∧ ∀ j, j ≤ 400 → (∀ j', j' < j → tTk b len j' ≠ 27) → tokR b len f' j
theorem tokR_cg {f f' : pln} {j : Nat} (h : tokR b len f j) (e1 : f' 238 j = f 238 j) (e2 : f' 239 j = f 239 j) (e3 : f' 240 j = f 240 j) : tokR b len f' j := by
  obtain ⟨x, h1, h2, h3, h4⟩ := h
  exact ⟨x, h1, e1.trans h2, e2.trans h3, fun q => e3.trans (h4 q)⟩
theorem r_cut7 (hlen : len ≤ 2000) (hN : 3000 ≤ N) : ∀ (n i k : Nat) (σ : aSt) (f : pln), len - i < n → i ≤ len → k ≤ 401 → RB b len f → f 235 10 = n32 k → skp b len i = tPl b len k → (∀ j, j < k → tokR b len f j ∧ tTk b len j ≠ 27) → (∀ k, k < 16 → aJ σ 242 k = i64 (kyw k)) → Ok (H_X12_cut_7 N n (n32 i) (mk σ f)) (fun _ σ' => cutQ b len σ f σ') := by
  intro n
  induction n with
  | zero => intro i k σ f h; omega
  | succ n ih =>
    intro i k σ f hn hi hk hB h10 hp ht hky
    have h0 := hB.1
    rw [H_X12_cut_7]
    by_cases hk4 : k = 401
    · with_reducible refine ok_ip (by first | assumption | omega | (simp (disch := omega) only [n32_of, neg_n32_1, n32_nat, n32_lt, n32_le, n32_eq, n32_add, n32_sub, n32_mul, n32_m1, m1_n32, n32_addm1, m1_lt, lt_m1, m1_le, le_m1, m1_add1, ofNat_n32, u2_self, u2_n, mk_I, mk_T, ne_eq, not_true_eq_false, not_false_eq_true, h10]; first | done | omega)) ?_
      exact ok_some ⟨σ, f, rfl, eJ_rf, fun _ _ _ _ _ _ => rfl, fun j hj _ => (ht j (by omega)).1⟩
    with_reducible refine ok_in (by first | assumption | omega | (simp (disch := omega) only [n32_of, neg_n32_1, n32_nat, n32_lt, n32_le, n32_eq, n32_add, n32_sub, n32_mul, n32_m1, m1_n32, n32_addm1, m1_lt, lt_m1, m1_le, le_m1, m1_add1, ofNat_n32, u2_self, u2_n, mk_I, mk_T, ne_eq, not_true_eq_false, not_false_eq_true, h10]; first | done | omega)) ?_
    have hk' : k ≤ 400 := by omega
    rw [r_at hB hlen (by omega)]
    refine ok_oB (ok_some ?_)
    by_cases hl : i < len
    · have hb2 := (hB.2 i hl).2
      rw [if_pos hl]
      with_reducible refine ok_ip (by first | assumption | omega | (simp (disch := omega) only [n32_of, neg_n32_1, n32_nat, n32_lt, n32_le, n32_eq, n32_add, n32_sub, n32_mul, n32_m1, m1_n32, n32_addm1, m1_lt, lt_m1, m1_le, le_m1, m1_add1, ofNat_n32, u2_self, u2_n, mk_I, mk_T, ne_eq, not_true_eq_false, not_false_eq_true, h0]; first | done | omega)) ?_
      by_cases hbl : pBl (b i)
      · have es : skp b len (i + 1) = tPl b len k := by
          rw [← hp]
          unfold skp
          rw [rn_s hl (decide_eq_true hbl)]
        have goal : Ok (J_X12_cut_67 N (H_X12_cut_7 N n) (n32 i) (mk σ f)) (fun _ σ' => cutQ b len σ f σ') := by
          unfold J_X12_cut_67 J_X12_cut_291
          simp (disch := omega) only [n32_of, neg_n32_1, n32_nat, n32_lt, n32_le, n32_eq, n32_add, n32_sub, n32_mul, n32_m1, m1_n32, n32_addm1, m1_lt, lt_m1, m1_le, le_m1, m1_add1, ofNat_n32, u2_self, u2_n, mk_I, mk_T, ]
          exact ih (i + 1) k σ f (by omega) (by omega) hk hB h10 es ht hky
        rcases hbl with c | c | c | c
        · rw [c]; repeat (first | with_reducible refine ok_W ?_ | with_reducible refine ok_cO (by first | assumption | omega | (simp (disch := omega) only [n32_of, neg_n32_1, n32_nat, n32_lt, n32_le, n32_eq, n32_add, n32_sub, n32_mul, n32_m1, m1_n32, n32_addm1, m1_lt, lt_m1, m1_le, le_m1, m1_add1, ofNat_n32, u2_self, u2_n, mk_I, mk_T, ne_eq, not_true_eq_false, not_false_eq_true, ]; first | done | omega)) ?_ | with_reducible refine ok_ip (by first | assumption | omega | (simp (disch := omega) only [n32_of, neg_n32_1, n32_nat, n32_lt, n32_le, n32_eq, n32_add, n32_sub, n32_mul, n32_m1, m1_n32, n32_addm1, m1_lt, lt_m1, m1_le, le_m1, m1_add1, ofNat_n32, u2_self, u2_n, mk_I, mk_T, ne_eq, not_true_eq_false, not_false_eq_true, ]; first | done | omega)) ?_ | with_reducible refine ok_in (by first | assumption | omega | (simp (disch := omega) only [n32_of, neg_n32_1, n32_nat, n32_lt, n32_le, n32_eq, n32_add, n32_sub, n32_mul, n32_m1, m1_n32, n32_addm1, m1_lt, lt_m1, m1_le, le_m1, m1_add1, ofNat_n32, u2_self, u2_n, mk_I, mk_T, ne_eq, not_true_eq_false, not_false_eq_true, ]; first | done | omega)) ?_); exact goal
        · rw [c]; repeat (first | with_reducible refine ok_W ?_ | with_reducible refine ok_cO (by first | assumption | omega | (simp (disch := omega) only [n32_of, neg_n32_1, n32_nat, n32_lt, n32_le, n32_eq, n32_add, n32_sub, n32_mul, n32_m1, m1_n32, n32_addm1, m1_lt, lt_m1, m1_le, le_m1, m1_add1, ofNat_n32, u2_self, u2_n, mk_I, mk_T, ne_eq, not_true_eq_false, not_false_eq_true, ]; first | done | omega)) ?_ | with_reducible refine ok_ip (by first | assumption | omega | (simp (disch := omega) only [n32_of, neg_n32_1, n32_nat, n32_lt, n32_le, n32_eq, n32_add, n32_sub, n32_mul, n32_m1, m1_n32, n32_addm1, m1_lt, lt_m1, m1_le, le_m1, m1_add1, ofNat_n32, u2_self, u2_n, mk_I, mk_T, ne_eq, not_true_eq_false, not_false_eq_true, ]; first | done | omega)) ?_ | with_reducible refine ok_in (by first | assumption | omega | (simp (disch := omega) only [n32_of, neg_n32_1, n32_nat, n32_lt, n32_le, n32_eq, n32_add, n32_sub, n32_mul, n32_m1, m1_n32, n32_addm1, m1_lt, lt_m1, m1_le, le_m1, m1_add1, ofNat_n32, u2_self, u2_n, mk_I, mk_T, ne_eq, not_true_eq_false, not_false_eq_true, ]; first | done | omega)) ?_); exact goal
        · rw [c]; repeat (first | with_reducible refine ok_W ?_ | with_reducible refine ok_cO (by first | assumption | omega | (simp (disch := omega) only [n32_of, neg_n32_1, n32_nat, n32_lt, n32_le, n32_eq, n32_add, n32_sub, n32_mul, n32_m1, m1_n32, n32_addm1, m1_lt, lt_m1, m1_le, le_m1, m1_add1, ofNat_n32, u2_self, u2_n, mk_I, mk_T, ne_eq, not_true_eq_false, not_false_eq_true, ]; first | done | omega)) ?_ | with_reducible refine ok_ip (by first | assumption | omega | (simp (disch := omega) only [n32_of, neg_n32_1, n32_nat, n32_lt, n32_le, n32_eq, n32_add, n32_sub, n32_mul, n32_m1, m1_n32, n32_addm1, m1_lt, lt_m1, m1_le, le_m1, m1_add1, ofNat_n32, u2_self, u2_n, mk_I, mk_T, ne_eq, not_true_eq_false, not_false_eq_true, ]; first | done | omega)) ?_ | with_reducible refine ok_in (by first | assumption | omega | (simp (disch := omega) only [n32_of, neg_n32_1, n32_nat, n32_lt, n32_le, n32_eq, n32_add, n32_sub, n32_mul, n32_m1, m1_n32, n32_addm1, m1_lt, lt_m1, m1_le, le_m1, m1_add1, ofNat_n32, u2_self, u2_n, mk_I, mk_T, ne_eq, not_true_eq_false, not_false_eq_true, ]; first | done | omega)) ?_); exact goal
        · rw [c]; repeat (first | with_reducible refine ok_W ?_ | with_reducible refine ok_cO (by first | assumption | omega | (simp (disch := omega) only [n32_of, neg_n32_1, n32_nat, n32_lt, n32_le, n32_eq, n32_add, n32_sub, n32_mul, n32_m1, m1_n32, n32_addm1, m1_lt, lt_m1, m1_le, le_m1, m1_add1, ofNat_n32, u2_self, u2_n, mk_I, mk_T, ne_eq, not_true_eq_false, not_false_eq_true, ]; first | done | omega)) ?_ | with_reducible refine ok_ip (by first | assumption | omega | (simp (disch := omega) only [n32_of, neg_n32_1, n32_nat, n32_lt, n32_le, n32_eq, n32_add, n32_sub, n32_mul, n32_m1, m1_n32, n32_addm1, m1_lt, lt_m1, m1_le, le_m1, m1_add1, ofNat_n32, u2_self, u2_n, mk_I, mk_T, ne_eq, not_true_eq_false, not_false_eq_true, ]; first | done | omega)) ?_ | with_reducible refine ok_in (by first | assumption | omega | (simp (disch := omega) only [n32_of, neg_n32_1, n32_nat, n32_lt, n32_le, n32_eq, n32_add, n32_sub, n32_mul, n32_m1, m1_n32, n32_addm1, m1_lt, lt_m1, m1_le, le_m1, m1_add1, ofNat_n32, u2_self, u2_n, mk_I, mk_T, ne_eq, not_true_eq_false, not_false_eq_true, ]; first | done | omega)) ?_); exact goal
      · have ei : tPl b len k = i := by
          rw [← hp]
          unfold skp
          rw [rn_e (Or.inr (decide_eq_false hbl))]
        have et : tTk b len k = lxT b len i := by
          unfold tTk
          rw [ei]
        have ea : tAt b len (k + 1) = lxE b len i := by
          show lxE b len (tPl b len k) = _
          rw [ei]
        have n27 : tTk b len k ≠ 27 := fun q => by
          have := (tTk_lt b len k).2.1 q
          omega
        have le := lxE_lt (b := b) hl
        -- a token more, and on
        have go : ∀ (x v : Nat) (σ1 : aSt), rkOK (lxT b len i) x → (32 ≤ lxT b len i → v = lxT b len i - 32) → tokP σ f k x i v σ1 → Ok (H_X12_cut_7 N n (n32 (lxE b len i)) σ1) (fun _ σ' => cutQ b len σ f σ') := by
          intro x v σ1 hx hv ⟨σ2, g, e, j1, g1, g2, g3, g4, g5⟩
          subst e
          have eg : eqK f g := fun a j a1 a2 a3 a4 => g5 a j (Or.inl ⟨a1, a2, a3⟩) a4
          refine ok_mono (ih (lxE b len i) (k + 1) σ2 g (by omega) (by omega) (by omega) (RB_K hB eg) g4 ?_ (fun j hj => ?_) (fun q hq => (j1.2 q).trans (hky q hq))) (fun u σ' hq => ?_)
          · show skp b len (lxE b len i) = skp b len (tAt b len (k + 1))
            rw [ea]
          · by_cases ej : j = k
            · subst ej
              refine ⟨⟨x, by rw [et]; exact hx, g1, by rw [ei]; exact g2, fun q => ?_⟩, n27⟩
              rw [g3, et, hv (by rw [← et]; exact q)]
            · have := ht j (by omega)
              exact ⟨tokR_cg this.1 (g5 _ _ (Or.inr ej) (by omega)) (g5 _ _ (Or.inr ej) (by omega)) (g5 _ _ (Or.inr ej) (by omega)), this.2⟩
          · obtain ⟨σ3, g', r1, r2, r3, r4⟩ := hq
            exact ⟨σ3, g', r1, eJ_tr j1 r2, eqK_tr eg r3, r4⟩
        have b9 : ¬ n32 (b i) = 9 := by intro q; rw [show (9 : Int32) = n32 9 from rfl, n32_eq (by omega) (by omega)] at q; omega
        have b10 : ¬ n32 (b i) = 10 := by intro q; rw [show (10 : Int32) = n32 10 from rfl, n32_eq (by omega) (by omega)] at q; omega
        have b13 : ¬ n32 (b i) = 13 := by intro q; rw [show (13 : Int32) = n32 13 from rfl, n32_eq (by omega) (by omega)] at q; omega
        have b32 : n32 (b i) ≠ 32 := by intro q; rw [show (32 : Int32) = n32 32 from rfl, n32_eq (by omega) (by omega)] at q; omega
        refine ok_in b9 (ok_in b10 (ok_in b13 (ok_ip b32 ?_)))
        rw [t_ltR hb2]
        refine ok_oB (ok_some ?_)
        by_cases hL : pLt (b i)
        · refine ok_in (yz hL) ?_
          obtain ⟨r1, r2, r3, r4⟩ := rn_all (P := fun i => decide (pLt (b i))) (len := len) (i := i) (by omega)
          have eE : lxE b len i = lte b len i := by
            unfold lxE
            rw [if_neg (by omega), if_pos hL]
          have eT : lxT b len i = wtk b i (lte b len i) := by
            unfold lxT
            rw [if_neg (by omega), if_pos hL]
          rw [eE, eT] at go
          rw [eE] at le
          have lets : ∀ q, q < lte b len i - i → pLt (b (i + q)) := fun q hq => of_decide_eq_true (r3 (i + q) (by omega) (by show i + q < lte b len i; omega))
          have tail : ∀ (x : Nat) (nm : Int64), rkOK (wtk b i (lte b len i)) x → Ok (J_X12_cut_179 N (H_X12_cut_7 N n) (n32 i) (n32 (lte b len i - i)) nm (n32 x) (mk σ f)) (fun _ σ' => cutQ b len σ f σ') := by
            intro x nm hx
            unfold J_X12_cut_179 J_X12_cut_291
            refine ok_oB (ok_mono (r_token (x := x) (p := i) (v := 0) hk' h10) (fun u σ1 hq => ?_))
            rw [n32_add, show i + (lte b len i - i) = lte b len i by omega]
            refine go x 0 σ1 hx (fun q => ?_) hq
            have := wtk_lt b i (lte b len i)
            omega
          refine r_lte (i := i) (k7 := H_X12_cut_7 N n) hB hlen ?_ N 0 (by omega) (by omega) rfl
          unfold J_X12_cut_135
          by_cases h7 : lte b len i - i ≤ 7
          · rw [if_pos (show lte b len i - i ≤ 8 by omega)]
            with_reducible refine ok_in (by first | assumption | omega | (simp (disch := omega) only [n32_of, neg_n32_1, n32_nat, n32_lt, n32_le, n32_eq, n32_add, n32_sub, n32_mul, n32_m1, m1_n32, n32_addm1, m1_lt, lt_m1, m1_le, le_m1, m1_add1, ofNat_n32, u2_self, u2_n, mk_I, mk_T, ne_eq, not_true_eq_false, not_false_eq_true, ]; first | done | omega)) ?_
            rw [show min (lte b len i - i) 8 = lte b len i - i by omega]
            have hv : nmv b i (lte b len i - i) < 2 ^ 63 := by
              have a := nmv_lt (b := b) (p := i) (lte b len i - i) lets
              have c := Nat.pow_le_pow_right (show 0 < 27 by omega) h7
              have d : 27 ^ 7 < 2 ^ 63 := by decide
              omega
            refine r_keys hky hv N 0 1 (by omega) (by omega) ?_
            refine tail _ _ ?_
            rw [lm_fw (fun j hj j' hj' q q' => ky_inj j hj j' hj' ((of_decide_eq_true q).trans (of_decide_eq_true q').symm)) 16 0 1 rfl]
            have ew : wtk b i (lte b len i) = fw (fun w => decide (kyw w = nmv b i (lte b len i - i))) 16 0 := by
              unfold wtk
              rw [if_pos h7]
              rfl
            rw [← ew]
            have wl := wtk_lt b i (lte b len i)
            generalize wtk b i (lte b len i) = t at wl
            by_cases h26 : t = 26
            · rw [if_pos h26]
              exact Or.inr ⟨h26, rfl⟩
            · rw [if_neg h26]
              refine Or.inl ?_
              unfold rkk
              rw [if_pos (by omega)]
          · with_reducible refine ok_ip (by first | assumption | omega | (simp (disch := omega) only [n32_of, neg_n32_1, n32_nat, n32_lt, n32_le, n32_eq, n32_add, n32_sub, n32_mul, n32_m1, m1_n32, n32_addm1, m1_lt, lt_m1, m1_le, le_m1, m1_add1, ofNat_n32, u2_self, u2_n, mk_I, mk_T, ne_eq, not_true_eq_false, not_false_eq_true, ]; first | done | omega)) ?_
            have w26 : wtk b i (lte b len i) = 26 := by
              unfold wtk
              rw [if_neg h7]
            by_cases h8 : lte b len i - i ≤ 8
            · rw [if_pos h8]
              exact tail 1 _ (Or.inr ⟨w26, rfl⟩)
            · rw [if_neg h8]
              exact tail 3 _ (Or.inl (by rw [w26]; rfl))
        · refine ok_ip (nz hL) ?_
          rw [t_dgR hb2]
          refine ok_oB (ok_some ?_)
          by_cases hD : pDg (b i)
          · refine ok_in (yz hD) ?_
            have eE : lxE b len i = dge b len i := by
              unfold lxE
              rw [if_neg (by omega), if_neg hL, if_pos hD]
            have eT : lxT b len i = if dge b len i - i ≤ 4 then 32 + iv b i (dge b len i - i) else 26 := by
              unfold lxT
              rw [if_neg (by omega), if_neg hL, if_pos hD]
            rw [eE] at go le
            refine r_dge (i := i) (k7 := H_X12_cut_7 N n) hB hlen ?_ N 0 (by omega) (by omega) rfl
            unfold J_X12_cut_261 J_X12_cut_291
            by_cases h4 : dge b len i - i ≤ 4
            · rw [if_pos h4] at eT ⊢
              rw [show min (dge b len i - i) 4 = dge b len i - i by omega]
              refine ok_oB (ok_mono (r_token (x := 2) (p := i) (v := iv b i (dge b len i - i)) hk' h10) (fun u σ1 hq => ?_))
              rw [n32_add, show i + (dge b len i - i) = dge b len i by omega]
              refine go 2 _ σ1 (Or.inl ?_) (fun q => by omega) hq
              rw [eT]
              unfold rkk
              rw [if_neg (by omega), if_neg (by omega), if_neg (by omega), if_neg (by omega), if_neg (by omega), if_neg (by omega), if_neg (by omega), if_neg (by omega), if_neg (by omega), if_neg (by omega)]
            · rw [if_neg h4] at eT ⊢
              refine ok_oB (ok_mono (r_token (x := 3) (p := i) (v := iv b i (min (dge b len i - i) 4)) hk' h10) (fun u σ1 hq => ?_))
              rw [n32_add, show i + (dge b len i - i) = dge b len i by omega]
              refine go 3 _ σ1 (Or.inl (by rw [eT]; rfl)) (fun q => by omega) hq
          · refine ok_ip (nz hD) ?_
            have e1 : n32 i + 1 = n32 (i + 1) := by rw [show (1 : Int32) = n32 1 from rfl, n32_add]
            rw [e1, r_at hB hlen (by omega)]
            refine ok_oB (ok_some ?_)
            have hd2 : (if i + 1 < len then b (i + 1) else 0) < 256 := by
              split
              · next q => exact (hB.2 (i + 1) q).2
              · omega
            have e2 : ((if i + 1 < len then b (i + 1) else 0) = 61 ∧ (b i = 61 ∨ b i = 33 ∨ b i = 60)) ↔ two b len i := by
              unfold two
              by_cases q : i + 1 < len
              · rw [if_pos q]
                exact ⟨fun h => ⟨⟨q, h.1⟩, h.2⟩, fun h => ⟨h.1.2, h.2⟩⟩
              · rw [if_neg q]
                exact ⟨fun h => by omega, fun h => absurd h.1.1 q⟩
            refine ok_oB (ok_mono (r_sign (i := i) (k := k) (c := b i) hb2 hd2 hk' h10) (fun y σ1 hq => ?_))
            obtain ⟨q1, q2⟩ := hq
            unfold J_X12_cut_291
            have eE : lxE b len i = if two b len i then i + 2 else i + 1 := by
              unfold lxE
              rw [if_neg (by omega), if_neg hL, if_neg hD]
            have eT : lxT b len i = if two b len i then sg2 (b i) else sg1 (b i) := by
              unfold lxT
              rw [if_neg (by omega), if_neg hL, if_neg hD]
            by_cases h2 : two b len i
            · rw [if_pos (e2.mpr h2)] at q1 q2
              rw [if_pos h2] at eE eT
              rw [q1, n32_add, ← eE]
              refine go _ 0 σ1 (Or.inl (by rw [eT])) (fun q => ?_) q2
              have := sg2_lt (b i)
              omega
            · rw [if_neg (fun q => h2 (e2.mp q))] at q1 q2
              rw [if_neg h2] at eE eT
              rw [q1, n32_add, ← eE]
              refine go _ 0 σ1 (Or.inl (by rw [eT])) (fun q => ?_) q2
              have := sg1_lt (b i)
              omega
    · have ei : i = len := by omega
      rw [if_neg hl]
      with_reducible refine ok_in (by first | assumption | omega | (simp (disch := omega) only [n32_of, neg_n32_1, n32_nat, n32_lt, n32_le, n32_eq, n32_add, n32_sub, n32_mul, n32_m1, m1_n32, n32_addm1, m1_lt, lt_m1, m1_le, le_m1, m1_add1, ofNat_n32, u2_self, u2_n, mk_I, mk_T, ne_eq, not_true_eq_false, not_false_eq_true, h0]; first | done | omega)) ?_
      have ep : tPl b len k = len := by
        rw [← hp]
        unfold skp
        rw [rn_e (Or.inl (by omega)), ei]
      have et : tTk b len k = 27 := (tTk_lt b len k).2.2 ep
      refine ok_oB (ok_mono (ok_eq (by simp (disch := omega) only [n32_of, neg_n32_1, n32_nat, n32_lt, n32_le, n32_eq, n32_add, n32_sub, n32_mul, n32_m1, m1_n32, n32_addm1, m1_lt, lt_m1, m1_le, le_m1, m1_add1, ofNat_n32, u2_self, u2_n, mk_I, mk_T, h0]) (r_token (N := N) (σ := σ) (x := 0) (p := len) (v := 0) (nm := 0) hk' h10)) (fun u σ1 hq => ?_))
      obtain ⟨σ2, g, e, j1, g1, g2, g3, g4, g5⟩ := hq
      refine ok_some ⟨σ2, g, e, j1, fun a j a1 a2 a3 a4 => g5 a j (Or.inl ⟨a1, a2, a3⟩) a4, fun j hj hb => ?_⟩
      by_cases ej : j < k
      · exact tokR_cg (ht j ej).1 (g5 _ _ (Or.inr (by omega)) (by omega)) (g5 _ _ (Or.inr (by omega)) (by omega)) (g5 _ _ (Or.inr (by omega)) (by omega))
      · by_cases ek : j = k
        · subst ek
          exact ⟨0, Or.inl (by rw [et]; rfl), g1, by rw [ep]; exact g2, fun q => by omega⟩
        · exact absurd et (hb k (by omega))
theorem r_cut {σ : aSt} {f : pln} (hlen : len ≤ 2000) (hN : 3000 ≤ N) (hB : RB b len f) (hky : ∀ k, k < 16 → aJ σ 242 k = i64 (kyw k)) : Ok (F_X12_cut N (mk σ f)) (fun _ σ' => cutQ b len σ f σ') := by
  unfold F_X12_cut
  repeat (first | with_reducible refine ok_W ?_ | with_reducible refine ok_cO (by first | assumption | omega | (simp (disch := omega) only [n32_of, neg_n32_1, n32_nat, n32_lt, n32_le, n32_eq, n32_add, n32_sub, n32_mul, n32_m1, m1_n32, n32_addm1, m1_lt, lt_m1, m1_le, le_m1, m1_add1, ofNat_n32, u2_self, u2_n, mk_I, mk_T, ne_eq, not_true_eq_false, not_false_eq_true, ]; first | done | omega)) ?_ | with_reducible refine ok_ip (by first | assumption | omega | (simp (disch := omega) only [n32_of, neg_n32_1, n32_nat, n32_lt, n32_le, n32_eq, n32_add, n32_sub, n32_mul, n32_m1, m1_n32, n32_addm1, m1_lt, lt_m1, m1_le, le_m1, m1_add1, ofNat_n32, u2_self, u2_n, mk_I, mk_T, ne_eq, not_true_eq_false, not_false_eq_true, ]; first | done | omega)) ?_ | with_reducible refine ok_in (by first | assumption | omega | (simp (disch := omega) only [n32_of, neg_n32_1, n32_nat, n32_lt, n32_le, n32_eq, n32_add, n32_sub, n32_mul, n32_m1, m1_n32, n32_addm1, m1_lt, lt_m1, m1_le, le_m1, m1_add1, ofNat_n32, u2_self, u2_n, mk_I, mk_T, ne_eq, not_true_eq_false, not_false_eq_true, ]; first | done | omega)) ?_)
  have eg : eqK f (u2 f 235 10 0) := fun a j a1 a2 a3 a4 => u2_n (by omega)
  refine ok_mono (r_cut7 hlen hN N 0 0 σ (u2 f 235 10 0) (by omega) (by omega) (by omega) (RB_K hB eg) (by rw [u2_self]; rfl) rfl (fun j hj => absurd hj (Nat.not_lt_zero j)) hky) (fun u σ' hq => ?_)
  obtain ⟨σ2, g, e, j1, g1, g2⟩ := hq
  exact ⟨σ2, g, e, j1, eqK_tr eg g1, g2⟩
end RLX
