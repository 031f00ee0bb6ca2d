/-! ===== feed ===== -/
def xby (x s : Int32) : Int32 := vp_nar .char (((((x.toUInt32 >>> (s.toUInt32 &&& Int32.toUInt32 31)).toInt32) &&& 255).toUInt32 % 65536).toInt32)
def rby (x s : Int32) : Int32 := vp_nar .byte ((x >>> (s &&& 31)).toInt8.toInt32)
def shf : Nat → Int32
  | 0 => -8
  | m + 1 => n32 (8 * m)
theorem and_n32 (y : Int32) : y &&& 255 = n32 (y.toBitVec.toNat % 256) := by
  apply Int32.toBitVec.inj
  rw [Int32.toBitVec_and]
  apply BitVec.eq_of_toNat_eq
  rw [BitVec.toNat_and]
  have e : (255 : Int32).toBitVec.toNat = 2 ^ 8 - 1 := by decide
  rw [e, Nat.and_two_pow_sub_one_eq_mod]
  show _ = (BitVec.ofNat 32 (y.toBitVec.toNat % 256)).toNat
  rw [BitVec.toNat_ofNat]
  omega
theorem bits_sh (x : BitVec 32) {s : Nat} (hs : s ≤ 24) : (x >>> s) &&& 255#32 = (x.sshiftRight s) &&& 255#32 := by
  have key : ∀ i : Nat, i < 32 → 8 ≤ i → (255#32).getLsbD i = false := by decide
  apply BitVec.eq_of_getLsbD_eq
  intro i hi
  rw [BitVec.getLsbD_and, BitVec.getLsbD_and]
  by_cases h8 : i < 8
  · rw [BitVec.getLsbD_ushiftRight, BitVec.getLsbD_sshiftRight]
    rw [if_pos (by omega), decide_eq_false (show ¬ 32 ≤ i by omega)]
    rfl
  · rw [key i hi (by omega), Bool.and_false, Bool.and_false]
theorem chr_ok : ∀ c : Nat, c < 256 → vp_nar .char (((n32 c).toUInt32 % 65536).toInt32) = n32 c := by decide +kernel
theorem by_ok (x : Int32) {m : Nat} (h0 : 1 ≤ m) (h4 : m ≤ 4) : xby x (shf m) = rby x (shf m) &&& 255 ∧ ∃ c, c < 256 ∧ xby x (shf m) = n32 c := by
  have e1 : rby x (shf m) &&& 255 = (x >>> (shf m &&& 31)) &&& 255 := by
    unfold rby
    rw [byte_and]
    exact byte_and _
  have e2 : ((x.toUInt32 >>> ((shf m).toUInt32 &&& Int32.toUInt32 31)).toInt32) &&& 255 = (x >>> (shf m &&& 31)) &&& 255 := by
    apply Int32.toBitVec.inj
    rw [Int32.toBitVec_and, Int32.toBitVec_and]
    rcases (show m = 1 ∨ m = 2 ∨ m = 3 ∨ m = 4 by omega) with rfl | rfl | rfl | rfl
    · exact bits_sh x.toBitVec (s := 0) (by omega)
    · exact bits_sh x.toBitVec (s := 8) (by omega)
    · exact bits_sh x.toBitVec (s := 16) (by omega)
    · exact bits_sh x.toBitVec (s := 24) (by omega)
  have e3 : xby x (shf m) = (x >>> (shf m &&& 31)) &&& 255 := by
    unfold xby
    rw [e2, and_n32]
    exact chr_ok _ (by omega)
  refine ⟨e3.trans e1.symm, _, ?_, e3.trans (and_n32 _)⟩
  omega
theorem shf_s {m : Nat} (h : m < 4) : shf (m + 1) + (-8) = shf m := by
  rcases (show m = 0 ∨ m = 1 ∨ m = 2 ∨ m = 3 by omega) with rfl | rfl | rfl | rfl <;> decide
section FEED
variable {N : Nat} {σ : aSt}
theorem x_put {x : Int32} : ∀ (m l : Nat) (f : pln) (n : Nat), m ≤ 4 → m < n → l + m ≤ 2000 → f 1 0 = n32 l → Ok (H_X8_putFourBytes_3 N n x (shf m) (mk σ f)) (fun _ σ' => ∃ f', σ' = mk σ f' ∧ f' 1 0 = n32 (l + m) ∧ (∀ i, i < m → f' 9 (l + i) = xby x (shf (m - i))) ∧ ∀ a k, (a ≠ 1 ∨ k ≠ 0) → (a ≠ 9 ∨ k < l ∨ l + m ≤ k) → f' a k = f a k) := by
  intro m
  induction m with
  | zero =>
    intro l f n h4 hn hl h0
    obtain ⟨n, rfl⟩ : ∃ n', n = n' + 1 := ⟨n - 1, by omega⟩
    rw [H_X8_putFourBytes_3]
    refine ok_ip (by decide) ?_
    exact ok_some ⟨f, rfl, h0, fun i hi => by omega, fun _ _ _ _ => rfl⟩
  | succ m ih =>
    intro l f n h4 hn hl h0
    obtain ⟨n, rfl⟩ : ∃ n', n = n' + 1 := ⟨n - 1, by omega⟩
    rw [H_X8_putFourBytes_3]
    have hs : ¬ shf (m + 1) < 0 := by
      show ¬ n32 (8 * m) < 0
      first | assumption | omega | (simp (disch := omega) only [n32_of, neg_n32_1, n32_nat, n32_lt, n32_le, n32_eq, n32_add, n32_sub, n32_mul, n32_m1, m1_n32, n32_addm1, m1_lt, lt_m1, m1_le, le_m1, m1_add1, ofNat_n32, u2_self, u2_n, mk_I, mk_T, ne_eq, not_true_eq_false, not_false_eq_true, ]; first | done | omega)
    refine ok_in hs ?_
    refine ok_in (by first | assumption | omega | (simp (disch := omega) only [n32_of, neg_n32_1, n32_nat, n32_lt, n32_le, n32_eq, n32_add, n32_sub, n32_mul, n32_m1, m1_n32, n32_addm1, m1_lt, lt_m1, m1_le, le_m1, m1_add1, ofNat_n32, u2_self, u2_n, mk_I, mk_T, ne_eq, not_true_eq_false, not_false_eq_true, h0]; first | done | omega)) ?_
    refine ok_cO (by first | assumption | omega | (simp (disch := omega) only [n32_of, neg_n32_1, n32_nat, n32_lt, n32_le, n32_eq, n32_add, n32_sub, n32_mul, n32_m1, m1_n32, n32_addm1, m1_lt, lt_m1, m1_le, le_m1, m1_add1, ofNat_n32, u2_self, u2_n, mk_I, mk_T, ne_eq, not_true_eq_false, not_false_eq_true, h0]; first | done | omega)) ?_
    refine ok_W ?_
    refine ok_W ?_
    rw [shf_s (by omega)]
    show Ok (H_X8_putFourBytes_3 N n x (shf m) (mk σ (u2 (u2 f 9 (f 1 0).toNatClampNeg (xby x (shf (m + 1)))) 1 0 (u2 f 9 (f 1 0).toNatClampNeg (xby x (shf (m + 1))) 1 0 + 1)))) _
    rw [u2_n (by omega), h0, n32_nat (by omega), show (1 : Int32) = n32 1 from rfl, n32_add]
    refine ok_mono (ih (l + 1) _ n (by omega) (by omega) (by omega) u2_self) (fun u σ' hq => ?_)
    obtain ⟨f', q1, q2, q3, q4⟩ := hq
    refine ⟨f', q1, by rw [q2]; congr 1; omega, fun i hi => ?_, fun a k w1 w2 => ?_⟩
    · by_cases ei : i = 0
      · subst ei
        rw [Nat.add_zero, q4 _ _ (by omega) (by omega), u2_n (by omega), u2_self]
        rfl
      · have := q3 (i - 1) (by omega)
        rw [show l + 1 + (i - 1) = l + i by omega, show m - (i - 1) = m + 1 - i by omega] at this
        exact this
    · rw [q4 a k w1 (by omega), u2_n (by omega), u2_n (by omega)]
theorem r_put {x : Int32} : ∀ (m l : Nat) (f : pln) (n : Nat), m ≤ 4 → m < n → l + m ≤ 2000 → f 235 2 = n32 l → Ok (H_X12_put_3 N n x (shf m) (mk σ f)) (fun _ σ' => ∃ f', σ' = mk σ f' ∧ f' 235 2 = n32 (l + m) ∧ (∀ i, i < m → f' 236 (l + i) = rby x (shf (m - i))) ∧ ∀ a k, (a ≠ 235 ∨ k ≠ 2) → (a ≠ 236 ∨ k < l ∨ l + m ≤ k) → f' a k = f a k) := by
  intro m
  induction m with
  | zero =>
    intro l f n h4 hn hl h0
    obtain ⟨n, rfl⟩ : ∃ n', n = n' + 1 := ⟨n - 1, by omega⟩
    rw [H_X12_put_3]
    refine ok_ip (by decide) ?_
    exact ok_some ⟨f, rfl, h0, fun i hi => by omega, fun _ _ _ _ => rfl⟩
  | succ m ih =>
    intro l f n h4 hn hl h0
    obtain ⟨n, rfl⟩ : ∃ n', n = n' + 1 := ⟨n - 1, by omega⟩
    rw [H_X12_put_3]
    have hs : ¬ shf (m + 1) < 0 := by
      show ¬ n32 (8 * m) < 0
      first | assumption | omega | (simp (disch := omega) only [n32_of, neg_n32_1, n32_nat, n32_lt, n32_le, n32_eq, n32_add, n32_sub, n32_mul, n32_m1, m1_n32, n32_addm1, m1_lt, lt_m1, m1_le, le_m1, m1_add1, ofNat_n32, u2_self, u2_n, mk_I, mk_T, ne_eq, not_true_eq_false, not_false_eq_true, ]; first | done | omega)
    refine ok_in hs ?_
    refine ok_cO (by first | assumption | omega | (simp (disch := omega) only [n32_of, neg_n32_1, n32_nat, n32_lt, n32_le, n32_eq, n32_add, n32_sub, n32_mul, n32_m1, m1_n32, n32_addm1, m1_lt, lt_m1, m1_le, le_m1, m1_add1, ofNat_n32, u2_self, u2_n, mk_I, mk_T, ne_eq, not_true_eq_false, not_false_eq_true, h0]; first | done | omega)) ?_
    refine ok_W ?_
    refine ok_W ?_
    rw [shf_s (by omega)]
    show Ok (H_X12_put_3 N n x (shf m) (mk σ (u2 (u2 f 236 (f 235 2).toNatClampNeg (rby x (shf (m + 1)))) 235 2 (u2 f 236 (f 235 2).toNatClampNeg (rby x (shf (m + 1))) 235 2 + 1)))) _
    rw [u2_n (by omega), h0, n32_nat (by omega), show (1 : Int32) = n32 1 from rfl, n32_add]
    refine ok_mono (ih (l + 1) _ n (by omega) (by omega) (by omega) u2_self) (fun u σ' hq => ?_)
    obtain ⟨f', q1, q2, q3, q4⟩ := hq
    refine ⟨f', q1, by rw [q2]; congr 1; omega, fun i hi => ?_, fun a k w1 w2 => ?_⟩
    · by_cases ei : i = 0
      · subst ei
        rw [Nat.add_zero, q4 _ _ (by omega) (by omega), u2_n (by omega), u2_self]
        rfl
      · have := q3 (i - 1) (by omega)
        rw [show l + 1 + (i - 1) = l + i by omega, show m - (i - 1) = m + 1 - i by omega] at this
        exact this
    · rw [q4 a k w1 (by omega), u2_n (by omega), u2_n (by omega)]
/-- q words behind the tape, on each side -/
def fdX (W : Nat → Int32) (len q : Nat) (f f' : pln) : Prop := f' 1 0 = n32 (len + 4 * q) ∧ (∀ j, j < 4 * q → f' 9 (len + j) = xby (W (j / 4)) (shf (4 - j % 4))) ∧ ∀ a k, (a ≠ 1 ∨ k ≠ 0) → (a ≠ 9 ∨ k < len) → f' a k = f a k
def fdR (W : Nat → Int32) (len q : Nat) (f f' : pln) : Prop := f' 235 2 = n32 (len + 4 * q) ∧ (∀ j, j < 4 * q → f' 236 (len + j) = rby (W (j / 4)) (shf (4 - j % 4))) ∧ ∀ a k, (a ≠ 235 ∨ k ≠ 2) → (a ≠ 236 ∨ k < len) → f' a k = f a k
theorem x_word1 {W : Nat → Int32} {len q : Nat} {f g : pln} (hN : 10 ≤ N) (hl : len + 20 ≤ 2000) (hq : q < 5) (h : fdX W len q f g) : Ok (F_X8_putFourBytes N (W q) (mk σ g)) (fun _ σ' => ∃ f', σ' = mk σ f' ∧ fdX W len (q + 1) f f') := by
  obtain ⟨h1, h2, h3⟩ := h
  unfold F_X8_putFourBytes
  refine ok_mono (x_put (x := W q) 4 (len + 4 * q) g N (by omega) (by omega) (by omega) h1) (fun u σ' hz => ?_)
  obtain ⟨f', q1, q2, q3, q4⟩ := hz
  refine ⟨f', q1, by rw [q2]; congr 1, fun j hj => ?_, fun a k w1 w2 => ?_⟩
  · by_cases hj2 : j < 4 * q
    · rw [q4 _ _ (by omega) (by omega)]
      exact h2 j hj2
    · have := q3 (j - 4 * q) (by omega)
      rw [show len + 4 * q + (j - 4 * q) = len + j by omega] at this
      rw [this, show j / 4 = q by omega, show j % 4 = j - 4 * q by omega]
  · rw [q4 a k w1 (by omega)]
    exact h3 a k w1 w2
theorem r_word1 {W : Nat → Int32} {len q : Nat} {f g : pln} (hN : 10 ≤ N) (hl : len + 20 ≤ 2000) (hq : q < 5) (h : fdR W len q f g) : Ok (F_X12_put N (W q) (mk σ g)) (fun _ σ' => ∃ f', σ' = mk σ f' ∧ fdR W len (q + 1) f f') := by
  obtain ⟨h1, h2, h3⟩ := h
  unfold F_X12_put
  refine ok_mono (r_put (x := W q) 4 (len + 4 * q) g N (by omega) (by omega) (by omega) h1) (fun u σ' hz => ?_)
  obtain ⟨f', q1, q2, q3, q4⟩ := hz
  refine ⟨f', q1, by rw [q2]; congr 1, fun j hj => ?_, fun a k w1 w2 => ?_⟩
  · by_cases hj2 : j < 4 * q
    · rw [q4 _ _ (by omega) (by omega)]
      exact h2 j hj2
    · have := q3 (j - 4 * q) (by omega)
      rw [show len + 4 * q + (j - 4 * q) = len + j by omega] at this
      rw [this, show j / 4 = q by omega, show j % 4 = j - 4 * q by omega]
  · rw [q4 a k w1 (by omega)]
    exact h3 a k w1 w2
theorem op_feed {f : pln} {len : Nat} {D : HD} {Y : LY} {s : Bool} {dr : Nat → SR} {st le : Nat → Nat} {ha : Nat → Nat → Nat} {sp nl : Nat → Nat} {rt : Nat → List Ru} {lw : Nat → Nat} (hN : 10 ≤ N) (x0 x1 x2 x3 x4 : Int32) (hI : IVx σ f len D Y s dr st le ha sp nl rt lw) : Same σ (F_X11_feed N x0 x1 x2 x3 x4) (F_X12_feed N x0 x1 x2 x3 x4) f := by
  have hI0 := hI
  obtain ⟨⟨t1, t2, t3, t4⟩, h2, h3, h4, h5, h6, h7, h8⟩ := hI
  by_cases hl : len + 20 ≤ 2000
  · unfold Same F_X11_feed
    refine ok_ip (by first | assumption | omega | (simp (disch := omega) only [n32_of, neg_n32_1, n32_nat, n32_lt, n32_le, n32_eq, n32_add, n32_sub, n32_mul, n32_m1, m1_n32, n32_addm1, m1_lt, lt_m1, m1_le, le_m1, m1_add1, ofNat_n32, u2_self, u2_n, mk_I, mk_T, ne_eq, not_true_eq_false, not_false_eq_true, t2]; first | done | omega)) ?_
    have base : fdX (fun j => if j = 0 then x0 else if j = 1 then x1 else if j = 2 then x2 else if j = 3 then x3 else x4) len 0 f f := ⟨t2, fun j hj => by omega, fun _ _ _ _ => rfl⟩
    refine ok_oB (ok_mono (x_word1 hN hl (by omega) base) (fun u σ1 hq => ?_))
    obtain ⟨f1, rfl, e1⟩ := hq
    refine ok_oB (ok_mono (x_word1 hN hl (by omega) e1) (fun u σ1 hq => ?_))
    obtain ⟨f2, rfl, e2⟩ := hq
    refine ok_oB (ok_mono (x_word1 hN hl (by omega) e2) (fun u σ1 hq => ?_))
    obtain ⟨f3, rfl, e3⟩ := hq
    refine ok_oB (ok_mono (x_word1 hN hl (by omega) e3) (fun u σ1 hq => ?_))
    obtain ⟨f4, rfl, e4⟩ := hq
    refine ok_oB (ok_mono (x_word1 hN hl (by omega) e4) (fun u σ1 hq => ?_))
    obtain ⟨f5, rfl, e5⟩ := hq
    refine ok_some ?_
    have t3' : f5 235 2 = n32 len := (e5.2.2 _ _ (by omega) (by omega)).trans t3
    unfold F_X12_feed
    refine ok_ip (by first | assumption | omega | (simp (disch := omega) only [n32_of, neg_n32_1, n32_nat, n32_lt, n32_le, n32_eq, n32_add, n32_sub, n32_mul, n32_m1, m1_n32, n32_addm1, m1_lt, lt_m1, m1_le, le_m1, m1_add1, ofNat_n32, u2_self, u2_n, mk_I, mk_T, ne_eq, not_true_eq_false, not_false_eq_true, t3']; first | done | omega)) ?_
    have base' : fdR (fun j => if j = 0 then x0 else if j = 1 then x1 else if j = 2 then x2 else if j = 3 then x3 else x4) len 0 f5 f5 := ⟨t3', fun j hj => by omega, fun _ _ _ _ => rfl⟩
    refine ok_oB (ok_mono (r_word1 hN hl (by omega) base') (fun u σ1 hq => ?_))
    obtain ⟨g1, rfl, k1⟩ := hq
    refine ok_oB (ok_mono (r_word1 hN hl (by omega) k1) (fun u σ1 hq => ?_))
    obtain ⟨g2, rfl, k2⟩ := hq
    refine ok_oB (ok_mono (r_word1 hN hl (by omega) k2) (fun u σ1 hq => ?_))
    obtain ⟨g3, rfl, k3⟩ := hq
    refine ok_oB (ok_mono (r_word1 hN hl (by omega) k3) (fun u σ1 hq => ?_))
    obtain ⟨g4, rfl, k4⟩ := hq
    refine ok_oB (ok_mono (r_word1 hN hl (by omega) k4) (fun u σ1 hq => ?_))
    obtain ⟨g5, rfl, k5⟩ := hq
    have fr : ∀ a k, (a ≠ 1 ∨ k ≠ 0) → (a ≠ 9 ∨ k < len) → (a ≠ 235 ∨ k ≠ 2) → (a ≠ 236 ∨ k < len) → g5 a k = f a k := fun a k w1 w2 w3 w4 => (k5.2.2 a k w3 w4).trans (e5.2.2 a k w1 w2)
    have g10 : g5 1 0 = n32 (len + 20) := (k5.2.2 _ _ (by omega) (by omega)).trans e5.1
    refine ok_some ⟨?_, IV_mk (len := len + 20) ⟨⟨by omega, g10, k5.1, fun j hj => ?_⟩, sPl_cg h2 (fun a k q => ?_), sHall_cg h3 (fun a k q => ?_), sLor_cg h4 (fun a k q => ?_), sDay_cg h5 (fun a k q => ?_), sPur_cg h3.1 h6 (fun a k q => ?_), sOut_cg h3.1 h4.1 h7 (fun a k q => ?_), sTxt_cg h8 (fun a k q => ?_)⟩⟩
    · show f5 1 0 = g5 235 2
      rw [e5.1, k5.1]
    · by_cases hj2 : j < len
      · rw [fr 9 j (by omega) (by omega) (by omega) (by omega), fr 236 j (by omega) (by omega) (by omega) (by omega)]
        exact t4 j hj2
      · have a1 := e5.2.1 (j - len) (by omega)
        have a2 := k5.2.1 (j - len) (by omega)
        rw [show len + (j - len) = j by omega] at a1 a2
        rw [k5.2.2 9 j (by omega) (by omega), a1, a2]
        exact by_ok _ (by omega) (by omega)
    · exact fr a k (by omega) (by omega) (by omega) (by omega)
    · exact fr a k (by omega) (by omega) (by omega) (by omega)
    · exact fr a k (by omega) (by omega) (by omega) (by omega)
    · exact fr a k (by omega) (by omega) (by omega) (by omega)
    · exact fr a k (by omega) (by omega) (by omega) (by omega)
    · exact fr a k (by omega) (by omega) (by omega) (by omega)
    · exact fr a k (by omega) (by omega) (by omega) (by omega)
  · refine same_id (y := -1) hI0 ?_ ?_
    · unfold F_X11_feed
      rw [if_neg (by first | assumption | omega | (simp (disch := omega) only [n32_of, neg_n32_1, n32_nat, n32_lt, n32_le, n32_eq, n32_add, n32_sub, n32_mul, n32_m1, m1_n32, n32_addm1, m1_lt, lt_m1, m1_le, le_m1, m1_add1, ofNat_n32, u2_self, u2_n, mk_I, mk_T, ne_eq, not_true_eq_false, not_false_eq_true, t2]; first | done | omega))]
    · unfold F_X12_feed
      rw [if_neg (by first | assumption | omega | (simp (disch := omega) only [n32_of, neg_n32_1, n32_nat, n32_lt, n32_le, n32_eq, n32_add, n32_sub, n32_mul, n32_m1, m1_n32, n32_addm1, m1_lt, lt_m1, m1_le, le_m1, m1_add1, ofNat_n32, u2_self, u2_n, mk_I, mk_T, ne_eq, not_true_eq_false, not_false_eq_true, t3]; first | done | omega))]
end FEED
