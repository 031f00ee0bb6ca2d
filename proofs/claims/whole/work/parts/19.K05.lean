/-! ===== the program reads a tape ===== -/
section XT3
variable {N t k st pt : Nat} {σ : aSt} {f : pln} {C : CX} {c ws : List Nat}
theorem x_endRule {g : pln} {r l : Nat} (h0 : g t 0 = n32 r) (hr : r < 20) (h6 : g t 6 = n32 l) : F_X10_endRule N t (mk σ g) = some ((), mk σ (u2 (u2 g (t + 4) r (n32 l)) t 0 (n32 (r + 1)))) := by
  unfold F_X10_endRule J_X10_endRule_32
  rw [if_neg (by first | assumption | omega | (simp (disch := omega) only [n32_of, neg_n32_1, n32_nat, n32_lt, n32_le, n32_eq, n32_add, n32_sub, n32_mul, n32_m1, m1_n32, n32_addm1, m1_lt, lt_m1, m1_le, le_m1, m1_add1, ofNat_n32, u2_self, u2_n, mk_I, mk_T, ne_eq, not_true_eq_false, not_false_eq_true, h0]; first | done | omega)), cO_t (by first | assumption | omega | (simp (disch := omega) only [n32_of, neg_n32_1, n32_nat, n32_lt, n32_le, n32_eq, n32_add, n32_sub, n32_mul, n32_m1, m1_n32, n32_addm1, m1_lt, lt_m1, m1_le, le_m1, m1_add1, ofNat_n32, u2_self, u2_n, mk_I, mk_T, ne_eq, not_true_eq_false, not_false_eq_true, h0]; first | done | omega)), lt_d, mk_W, lt_d, mk_W]
  simp (disch := omega) only [n32_of, neg_n32_1, n32_nat, n32_lt, n32_le, n32_eq, n32_add, n32_sub, n32_mul, n32_m1, m1_n32, n32_addm1, m1_lt, lt_m1, m1_le, le_m1, m1_add1, ofNat_n32, u2_self, u2_n, mk_I, mk_T, h0, h6]
theorem x_tk_semi (hN : 100 ≤ N) (ht : t = 2 ∨ 15 ≤ t) (hT : aTxt σ 1 2 = t) (hX : XI t f k 2 pt C c ws) (hP : PI k 2 pt C c ws) (hk : k < 400) (ho : opn ws = 0) (hp : pt = 0 ∨ pt = 2) : Ok (F_X8_take N (n32 16) (mk σ f)) (fun _ σ' => ∃ f', σ' = mk σ f' ∧ eqP t f f' ∧ XI t f' (k + 1) 0 0 (cEnd pt C (c ++ ws)) [] []) := by
  have hX0 := hX
  obtain ⟨⟨a1, a2, a3, a4⟩, a5, a6, a7, a8⟩ := hX
  obtain ⟨q1, q2, q3, q4, q5⟩ := PI_x hP
  have hl := (hP.2.1.2.1 (by omega)).2
  obtain ⟨b1, b2, b3⟩ := a8 (by omega)
  have a3 := a3 (by omega)
  refine x_behind hN ht hT hX0 hP hk (by omega) (fun g g1 g2 g3 => ?_)
  obtain ⟨z1, z2⟩ := pd_all (r := 1) (by omega) q5.2 ho (xPd pt C)
  obtain ⟨y1, y2⟩ := xPd_1 (pt := pt) (C := C) (fun q => (hP.2.1.2.2.2.2.2.2.2 q).2)
  rw [show rkx 16 = 1 from rfl, z1, z2, y1, y2] at g1
  have g0 : g t 0 = n32 (xR C).length := (g3 _ _ (by omega) (by omega) (by omega)).trans a6
  have g6 := g1.2.1
  have g8 : g 1 8 = n32 pt := (g3 _ _ (by omega) (by omega) (by omega)).trans a3
  -- the rule that ends here
  have fin : ∀ (u : Ru) (h : pln), xCd C c ++ (ws ++ xPd pt C) = fxc (xR C ++ [u]) → cEnd pt C (c ++ ws) = cNew (xR C ++ [u]) 0 → u.1 = xW C → h (t + 3) (xR C).length = n32 ((fxc (xR C)).length + u.2.1.length) → (∀ a j, a ≠ t + 3 ∨ j ≠ (xR C).length → h a j = g a j) → Ok (J_X8_takeBehindUnit_51 N (mk σ h)) (fun _ σ' => ∃ f', σ' = mk σ f' ∧ eqP t f f' ∧ XI t f' (k + 1) 0 0 (cEnd pt C (c ++ ws)) [] []) := by
    intro u h eC eE e1 e3 eh
    rw [eC] at g1 g6
    have ef : (fxc (xR C ++ [u])).length = (fxc (xR C)).length + u.2.1.length + (condC u.2.2).length := by
      rw [fxc_app, List.length_append]
      show _ + (u.2.1 ++ (condC u.2.2 ++ [])).length = _
      rw [List.append_nil, List.length_append]
      omega
    have h0 : h t 0 = n32 (xR C).length := (eh _ _ (by omega)).trans g0
    have h6 : h t 6 = n32 (fxc (xR C ++ [u])).length := (eh _ _ (by omega)).trans g6
    unfold J_X8_takeBehindUnit_51 J_X8_takeBehindUnit_96
    rw [mk_T, hT, x_endRule h0 hl h6]
    refine ok_oB (ok_some ?_)
    repeat (first | with_reducible refine ok_W ?_ | with_reducible refine ok_cO (by first | assumption | omega | (simp (disch := omega) only [n32_of, neg_n32_1, n32_nat, n32_lt, n32_le, n32_eq, n32_add, n32_sub, n32_mul, n32_m1, m1_n32, n32_addm1, m1_lt, lt_m1, m1_le, le_m1, m1_add1, ofNat_n32, u2_self, u2_n, mk_I, mk_T, ne_eq, not_true_eq_false, not_false_eq_true, ]; first | done | omega)) ?_ | with_reducible refine ok_ip (by first | assumption | omega | (simp (disch := omega) only [n32_of, neg_n32_1, n32_nat, n32_lt, n32_le, n32_eq, n32_add, n32_sub, n32_mul, n32_m1, m1_n32, n32_addm1, m1_lt, lt_m1, m1_le, le_m1, m1_add1, ofNat_n32, u2_self, u2_n, mk_I, mk_T, ne_eq, not_true_eq_false, not_false_eq_true, ]; first | done | omega)) ?_ | with_reducible refine ok_in (by first | assumption | omega | (simp (disch := omega) only [n32_of, neg_n32_1, n32_nat, n32_lt, n32_le, n32_eq, n32_add, n32_sub, n32_mul, n32_m1, m1_n32, n32_addm1, m1_lt, lt_m1, m1_le, le_m1, m1_add1, ofNat_n32, u2_self, u2_n, mk_I, mk_T, ne_eq, not_true_eq_false, not_false_eq_true, ]; first | done | omega)) ?_)
    rw [eE]
    refine ok_some ⟨_, rfl, ?_, ?_⟩
    · intro a j w1 w2 w3
      simp (disch := omega) only [n32_of, neg_n32_1, n32_nat, n32_lt, n32_le, n32_eq, n32_add, n32_sub, n32_mul, n32_m1, m1_n32, n32_addm1, m1_lt, lt_m1, m1_le, le_m1, m1_add1, ofNat_n32, u2_self, u2_n, mk_I, mk_T, ]
      rw [eh a j (by omega)]
      exact g3 a j (by omega) (by omega) (by omega)
    · have el : (xR C ++ [u]).length = (xR C).length + 1 := by rw [List.length_append, List.length_singleton]
      refine ⟨⟨?_, ?_, fun q => absurd rfl q, ?_⟩, ?_, ?_, XRs_app _ _ _ (XRs_cg _ _ _ a7 (fun a j w1 w2 w3 w4 => ?_)) ⟨⟨?_, ?_, ?_, ?_⟩, trivial⟩, fun q => absurd rfl q⟩
      · simp (disch := omega) only [n32_of, neg_n32_1, n32_nat, n32_lt, n32_le, n32_eq, n32_add, n32_sub, n32_mul, n32_m1, m1_n32, n32_addm1, m1_lt, lt_m1, m1_le, le_m1, m1_add1, ofNat_n32, u2_self, u2_n, mk_I, mk_T, ]
      · simp (disch := omega) only [n32_of, neg_n32_1, n32_nat, n32_lt, n32_le, n32_eq, n32_add, n32_sub, n32_mul, n32_m1, m1_n32, n32_addm1, m1_lt, lt_m1, m1_le, le_m1, m1_add1, ofNat_n32, u2_self, u2_n, mk_I, mk_T, ]
        rw [eh _ _ (by omega)]
        exact g2
      · simp (disch := omega) only [n32_of, neg_n32_1, n32_nat, n32_lt, n32_le, n32_eq, n32_add, n32_sub, n32_mul, n32_m1, m1_n32, n32_addm1, m1_lt, lt_m1, m1_le, le_m1, m1_add1, ofNat_n32, u2_self, u2_n, mk_I, mk_T, ]
        rw [eh _ _ (by omega), g3 _ _ (by omega) (by omega) (by omega), a4, ho]
        rfl
      · have e5 : xCd (cNew (xR C ++ [u]) 0) [] = fxc (xR C ++ [u]) := by
          show fxc (xR C ++ [u]) ++ ([] ++ ([] ++ ([] ++ []))) = _
          simp
        rw [e5]
        refine xSt_cg g1 ?_ (fun j => ?_) ?_ (fun j => ?_)
        · simp (disch := omega) only [n32_of, neg_n32_1, n32_nat, n32_lt, n32_le, n32_eq, n32_add, n32_sub, n32_mul, n32_m1, m1_n32, n32_addm1, m1_lt, lt_m1, m1_le, le_m1, m1_add1, ofNat_n32, u2_self, u2_n, mk_I, mk_T, ]
          exact eh _ _ (by omega)
        · simp (disch := omega) only [n32_of, neg_n32_1, n32_nat, n32_lt, n32_le, n32_eq, n32_add, n32_sub, n32_mul, n32_m1, m1_n32, n32_addm1, m1_lt, lt_m1, m1_le, le_m1, m1_add1, ofNat_n32, u2_self, u2_n, mk_I, mk_T, ]
          exact eh _ _ (by omega)
        · simp (disch := omega) only [n32_of, neg_n32_1, n32_nat, n32_lt, n32_le, n32_eq, n32_add, n32_sub, n32_mul, n32_m1, m1_n32, n32_addm1, m1_lt, lt_m1, m1_le, le_m1, m1_add1, ofNat_n32, u2_self, u2_n, mk_I, mk_T, ]
          exact eh _ _ (by omega)
        · simp (disch := omega) only [n32_of, neg_n32_1, n32_nat, n32_lt, n32_le, n32_eq, n32_add, n32_sub, n32_mul, n32_m1, m1_n32, n32_addm1, m1_lt, lt_m1, m1_le, le_m1, m1_add1, ofNat_n32, u2_self, u2_n, mk_I, mk_T, ]
          exact eh _ _ (by omega)
      · show _ = n32 (xR C ++ [u]).length
        rw [el]
        simp (disch := omega) only [n32_of, neg_n32_1, n32_nat, n32_lt, n32_le, n32_eq, n32_add, n32_sub, n32_mul, n32_m1, m1_n32, n32_addm1, m1_lt, lt_m1, m1_le, le_m1, m1_add1, ofNat_n32, u2_self, u2_n, mk_I, mk_T, ]
      · simp (disch := omega) only [n32_of, neg_n32_1, n32_nat, n32_lt, n32_le, n32_eq, n32_add, n32_sub, n32_mul, n32_m1, m1_n32, n32_addm1, m1_lt, lt_m1, m1_le, le_m1, m1_add1, ofNat_n32, u2_self, u2_n, mk_I, mk_T, ]
        rw [eh _ _ (by omega)]
        exact g3 _ _ (by omega) (by omega) (by omega)
      · rw [Nat.zero_add]
        simp (disch := omega) only [n32_of, neg_n32_1, n32_nat, n32_lt, n32_le, n32_eq, n32_add, n32_sub, n32_mul, n32_m1, m1_n32, n32_addm1, m1_lt, lt_m1, m1_le, le_m1, m1_add1, ofNat_n32, u2_self, u2_n, mk_I, mk_T, ]
        rw [eh _ _ (by omega), g3 _ _ (by omega) (by omega) (by omega), b1, e1]
      · rw [Nat.zero_add, Nat.zero_add]
        simp (disch := omega) only [n32_of, neg_n32_1, n32_nat, n32_lt, n32_le, n32_eq, n32_add, n32_sub, n32_mul, n32_m1, m1_n32, n32_addm1, m1_lt, lt_m1, m1_le, le_m1, m1_add1, ofNat_n32, u2_self, u2_n, mk_I, mk_T, ]
        rw [eh _ _ (by omega), g3 _ _ (by omega) (by omega) (by omega), b2]
      · rw [Nat.zero_add, Nat.zero_add]
        simp (disch := omega) only [n32_of, neg_n32_1, n32_nat, n32_lt, n32_le, n32_eq, n32_add, n32_sub, n32_mul, n32_m1, m1_n32, n32_addm1, m1_lt, lt_m1, m1_le, le_m1, m1_add1, ofNat_n32, u2_self, u2_n, mk_I, mk_T, ]
        exact e3
      · rw [Nat.zero_add, Nat.zero_add]
        simp (disch := omega) only [n32_of, neg_n32_1, n32_nat, n32_lt, n32_le, n32_eq, n32_add, n32_sub, n32_mul, n32_m1, m1_n32, n32_addm1, m1_lt, lt_m1, m1_le, le_m1, m1_add1, ofNat_n32, u2_self, u2_n, mk_I, mk_T, ]
        rw [ef]
  unfold tbB
  repeat (first | with_reducible refine ok_W ?_ | with_reducible refine ok_cO (by first | assumption | omega | (simp (disch := omega) only [n32_of, neg_n32_1, n32_nat, n32_lt, n32_le, n32_eq, n32_add, n32_sub, n32_mul, n32_m1, m1_n32, n32_addm1, m1_lt, lt_m1, m1_le, le_m1, m1_add1, ofNat_n32, u2_self, u2_n, mk_I, mk_T, ne_eq, not_true_eq_false, not_false_eq_true, ]; first | done | omega)) ?_ | with_reducible refine ok_ip (by first | assumption | omega | (simp (disch := omega) only [n32_of, neg_n32_1, n32_nat, n32_lt, n32_le, n32_eq, n32_add, n32_sub, n32_mul, n32_m1, m1_n32, n32_addm1, m1_lt, lt_m1, m1_le, le_m1, m1_add1, ofNat_n32, u2_self, u2_n, mk_I, mk_T, ne_eq, not_true_eq_false, not_false_eq_true, ]; first | done | omega)) ?_ | with_reducible refine ok_in (by first | assumption | omega | (simp (disch := omega) only [n32_of, neg_n32_1, n32_nat, n32_lt, n32_le, n32_eq, n32_add, n32_sub, n32_mul, n32_m1, m1_n32, n32_addm1, m1_lt, lt_m1, m1_le, le_m1, m1_add1, ofNat_n32, u2_self, u2_n, mk_I, mk_T, ne_eq, not_true_eq_false, not_false_eq_true, ]; first | done | omega)) ?_)
  rcases hp with rfl | rfl
  · obtain ⟨v0, l0⟩ := hP.2.1.2.2.2.1 rfl
    have e0 := hP.2.1.2.2.2.2.1 (by omega)
    have ep : xPd 0 C = [] := by
      unfold xPd
      rw [l0]
      rfl
    have eC : xCd C c ++ (ws ++ xPd 0 C) = fxc (xR C ++ [(xW C, c ++ ws, [])]) := by
      rw [fxc_app, ep]
      show fxc (xR C) ++ (xV C ++ (jc (xL C) (xO C) ++ (xE C ++ c))) ++ (ws ++ []) = fxc (xR C) ++ ((c ++ ws) ++ ([] ++ []))
      rw [v0, l0, e0]
      simp [jc]
    have g6' : g t 6 = n32 ((fxc (xR C)).length + (c ++ ws).length) := by
      rw [g6, eC, fxc_app, List.length_append]
      show n32 ((fxc (xR C)).length + ((c ++ ws) ++ ([] ++ [])).length) = _
      simp
    with_reducible refine ok_in (by first | assumption | omega | (simp (disch := omega) only [n32_of, neg_n32_1, n32_nat, n32_lt, n32_le, n32_eq, n32_add, n32_sub, n32_mul, n32_m1, m1_n32, n32_addm1, m1_lt, lt_m1, m1_le, le_m1, m1_add1, ofNat_n32, u2_self, u2_n, mk_I, mk_T, ne_eq, not_true_eq_false, not_false_eq_true, g8]; first | done | omega)) ?_
    rw [mk_T, hT, x_endValue g0 hl g6']
    refine ok_oB (ok_some ?_)
    exact fin (xW C, c ++ ws, []) _ eC rfl rfl u2_self (fun a j q => u2_n (by omega))
  · have eC : xCd C c ++ (ws ++ xPd 2 C) = fxc (xR C ++ [(xW C, xV C, finR C (c ++ ws))]) := by
      rw [fxc_app]
      show fxc (xR C) ++ (xV C ++ (jc (xL C) (xO C) ++ (xE C ++ c))) ++ (ws ++ ([20 + xS C] ++ (lB (js (xL C) (xO C)).2 5 ++ lB (js (xL C) (xO C)).1 4))) = fxc (xR C) ++ (xV C ++ (condC (finR C (c ++ ws)) ++ []))
      unfold finR
      rw [condC_fin]
      simp
    with_reducible refine ok_ip (by first | assumption | omega | (simp (disch := omega) only [n32_of, neg_n32_1, n32_nat, n32_lt, n32_le, n32_eq, n32_add, n32_sub, n32_mul, n32_m1, m1_n32, n32_addm1, m1_lt, lt_m1, m1_le, le_m1, m1_add1, ofNat_n32, u2_self, u2_n, mk_I, mk_T, ne_eq, not_true_eq_false, not_false_eq_true, g8]; first | done | omega)) ?_
    exact fin (xW C, xV C, finR C (c ++ ws)) g eC rfl rfl ((g3 _ _ (by omega) (by omega) (by omega)).trans (b3 (by omega))) (fun _ _ _ => rfl)
/-- a text read through, or its fault -/
def xOut (t : Nat) (f' : pln) (O : Nat × Nat × List Ru) (y : Int32) : Prop := y = n32 O.1 ∧ O.1 ≤ 2 ∧ f' 1 1 = (if O.1 = 0 then -1 else n32 O.2.1) ∧ (O.1 = 0 → okT O.2.2 ∧ XT f' t O.2.2)
def eqX (t : Nat) (f f' : pln) : Prop := ∀ a k, (a ≠ 1 ∨ k = 0) → a ≠ 10 → (a < t ∨ t + 5 < a) → f' a k = f a k
theorem x_parse_loop {b : Nat → Nat} {len : Nat} (hN : 3000 ≤ N) (hlen : len ≤ 2000) (ht : t = 2 ∨ 15 ≤ t) (hT : aTxt σ 1 2 = t) : ∀ (m k st pt : Nat) (C : CX) (c ws : List Nat) (f : pln) (n : Nat), m + k = 401 → m + 3 ≤ n → XBy b len f → f 1 4 = n32 (tAt b len k) → (∀ j, j < k → tTk b len j ≠ 27) → XI t f k st pt C c ws → PI k st pt C c ws → Ok (H_X8_parse_10 N n 0 0 (n32 k) (mk σ f)) (fun y σ' => ∃ f', σ' = mk σ f' ∧ eqX t f f' ∧ xOut t f' (run (tTk b len) (tPl b len) m k st pt C c ws) y) := by
  intro m
  induction m with
  | zero => intro k st pt C c ws f n hm hn hB h4 hj hX hP; have := hP.1; omega
  | succ m ih =>
    intro k st pt C c ws f n hm hn hB h4 hj hX hP
    obtain ⟨n, rfl⟩ : ∃ n', n = n' + 1 := ⟨n - 1, by omega⟩
    obtain ⟨n', rfl⟩ : ∃ n', n = n' + 1 := ⟨n - 1, by omega⟩
    have h0 := hB.1
    have hkl := tAt_k k hj
    have hal := tAt_le b len k
    have hk4 := hP.1
    rw [H_X8_parse_10]
    refine ok_in (by first | assumption | omega | (simp (disch := omega) only [n32_of, neg_n32_1, n32_nat, n32_lt, n32_le, n32_eq, n32_add, n32_sub, n32_mul, n32_m1, m1_n32, n32_addm1, m1_lt, lt_m1, m1_le, le_m1, m1_add1, ofNat_n32, u2_self, u2_n, mk_I, mk_T, ne_eq, not_true_eq_false, not_false_eq_true, h0]; first | done | omega)) ?_
    refine ok_in (fun q => q rfl) ?_
    refine ok_oB (ok_mono (x_next hN hlen hal h4 hB) (fun y σ' hq => ?_))
    obtain ⟨rfl, g, rfl, eg, g4, g5⟩ := hq
    have htk : lxT b len (skp b len (tAt b len k)) = tTk b len k := rfl
    have hpl : skp b len (tAt b len k) = tPl b len k := rfl
    rw [htk]
    rw [hpl] at g4 g5
    have hat : lxE b len (tPl b len k) = tAt b len (k + 1) := rfl
    rw [hat] at g4
    have tkl := tTk_lt b len k
    have gB := XBy_45 hB eg
    have hXg : XI t g k st pt C c ws := by
      obtain ⟨⟨a1, a2, a3, a4⟩, a5, a6, a7, a8⟩ := hX
      exact ⟨⟨(eg _ _ (by omega)).trans a1, (eg _ _ (by omega)).trans a2, fun q => (eg _ _ (by omega)).trans (a3 q), (eg _ _ (by omega)).trans a4⟩, xSt_cg a5 (eg _ _ (by omega)) (fun j => eg _ _ (by omega)) (eg _ _ (by omega)) (fun j => eg _ _ (by omega)), (eg _ _ (by omega)).trans a6, XRs_cg _ _ _ a7 (fun a j w1 w2 w3 w4 => eg _ _ (by omega)), fun q => ⟨(eg _ _ (by omega)).trans (a8 q).1, (eg _ _ (by omega)).trans (a8 q).2.1, fun z => (eg _ _ (by omega)).trans ((a8 q).2.2 z)⟩⟩
    have efg : eqX t f g := fun a j w1 w2 w3 => eg a j (by omega)
    obtain ⟨q1, q2, q3, q4, q5⟩ := PI_x hP
    have hR := hP.2.1.1
    obtain ⟨⟨a1, a2, a3, a4⟩, a5, a6, a7, a8⟩ := hXg
    have hXg : XI t g k st pt C c ws := ⟨⟨a1, a2, a3, a4⟩, a5, a6, a7, a8⟩
    rw [x_fault (pt := pt) (nr := (xR C).length) hT a2 a1 a3 a4 a6 hk4 hR.1 hR.2.1 q5.1 hR.2.2.1 (by omega)]
    refine ok_oB (ok_some ?_)
    -- the loop ends here with a number
    have stop : ∀ (y : Nat) (O : Nat × Nat × List Ru), y ≤ 2 → O.1 = y → (y ≠ 0 → O.2.1 = tPl b len k) → (y = 0 → okT O.2.2 ∧ XT g t O.2.2) → Ok (J_X8_parse_46 N (H_X8_parse_10 N (n' + 1)) (n32 y) (n32 k) (n32 (tTk b len k)) (mk σ g)) (fun y σ' => ∃ f', σ' = mk σ f' ∧ eqX t f f' ∧ xOut t f' O y) := by
      intro y O hy e1 e2 e3
      unfold J_X8_parse_46 J_X8_parse_51 J_X8_parse_62
      refine ok_ip (by decide) ?_
      rw [H_X8_parse_10]
      have fin : Ok (J_X8_parse_68 N (n32 y) (mk σ g)) (fun y σ' => ∃ f', σ' = mk σ f' ∧ eqX t f f' ∧ xOut t f' O y) := by
        unfold J_X8_parse_68 J_X8_parse_81
        by_cases hy0 : y = 0
        · with_reducible refine ok_in (by first | assumption | omega | (simp (disch := omega) only [n32_of, neg_n32_1, n32_nat, n32_lt, n32_le, n32_eq, n32_add, n32_sub, n32_mul, n32_m1, m1_n32, n32_addm1, m1_lt, lt_m1, m1_le, le_m1, m1_add1, ofNat_n32, u2_self, u2_n, mk_I, mk_T, ne_eq, not_true_eq_false, not_false_eq_true, ]; first | done | omega)) ?_
          repeat (first | with_reducible refine ok_W ?_ | with_reducible refine ok_cO (by first | assumption | omega | (simp (disch := omega) only [n32_of, neg_n32_1, n32_nat, n32_lt, n32_le, n32_eq, n32_add, n32_sub, n32_mul, n32_m1, m1_n32, n32_addm1, m1_lt, lt_m1, m1_le, le_m1, m1_add1, ofNat_n32, u2_self, u2_n, mk_I, mk_T, ne_eq, not_true_eq_false, not_false_eq_true, ]; first | done | omega)) ?_ | with_reducible refine ok_ip (by first | assumption | omega | (simp (disch := omega) only [n32_of, neg_n32_1, n32_nat, n32_lt, n32_le, n32_eq, n32_add, n32_sub, n32_mul, n32_m1, m1_n32, n32_addm1, m1_lt, lt_m1, m1_le, le_m1, m1_add1, ofNat_n32, u2_self, u2_n, mk_I, mk_T, ne_eq, not_true_eq_false, not_false_eq_true, ]; first | done | omega)) ?_ | with_reducible refine ok_in (by first | assumption | omega | (simp (disch := omega) only [n32_of, neg_n32_1, n32_nat, n32_lt, n32_le, n32_eq, n32_add, n32_sub, n32_mul, n32_m1, m1_n32, n32_addm1, m1_lt, lt_m1, m1_le, le_m1, m1_add1, ofNat_n32, u2_self, u2_n, mk_I, mk_T, ne_eq, not_true_eq_false, not_false_eq_true, ]; first | done | omega)) ?_)
          refine ok_some ⟨_, rfl, fun a j w1 w2 w3 => ?_, ?_, ?_, ?_, fun _ => ?_⟩
          · rw [u2_n (by omega)]
            exact efg a j w1 w2 w3
          · rw [e1]
          · omega
          · rw [u2_self, if_pos (by omega)]
          · refine ⟨(e3 hy0).1, ?_⟩
            exact XT_cg (e3 hy0).2 (fun k => u2_n (by omega)) (fun k => u2_n (by omega)) (fun k => u2_n (by omega)) (fun k => u2_n (by omega)) (fun k => u2_n (by omega)) (fun k => u2_n (by omega))
        · with_reducible refine ok_ip (by first | assumption | omega | (simp (disch := omega) only [n32_of, neg_n32_1, n32_nat, n32_lt, n32_le, n32_eq, n32_add, n32_sub, n32_mul, n32_m1, m1_n32, n32_addm1, m1_lt, lt_m1, m1_le, le_m1, m1_add1, ofNat_n32, u2_self, u2_n, mk_I, mk_T, ne_eq, not_true_eq_false, not_false_eq_true, ]; first | done | omega)) ?_
          repeat (first | with_reducible refine ok_W ?_ | with_reducible refine ok_cO (by first | assumption | omega | (simp (disch := omega) only [n32_of, neg_n32_1, n32_nat, n32_lt, n32_le, n32_eq, n32_add, n32_sub, n32_mul, n32_m1, m1_n32, n32_addm1, m1_lt, lt_m1, m1_le, le_m1, m1_add1, ofNat_n32, u2_self, u2_n, mk_I, mk_T, ne_eq, not_true_eq_false, not_false_eq_true, ]; first | done | omega)) ?_ | with_reducible refine ok_ip (by first | assumption | omega | (simp (disch := omega) only [n32_of, neg_n32_1, n32_nat, n32_lt, n32_le, n32_eq, n32_add, n32_sub, n32_mul, n32_m1, m1_n32, n32_addm1, m1_lt, lt_m1, m1_le, le_m1, m1_add1, ofNat_n32, u2_self, u2_n, mk_I, mk_T, ne_eq, not_true_eq_false, not_false_eq_true, ]; first | done | omega)) ?_ | with_reducible refine ok_in (by first | assumption | omega | (simp (disch := omega) only [n32_of, neg_n32_1, n32_nat, n32_lt, n32_le, n32_eq, n32_add, n32_sub, n32_mul, n32_m1, m1_n32, n32_addm1, m1_lt, lt_m1, m1_le, le_m1, m1_add1, ofNat_n32, u2_self, u2_n, mk_I, mk_T, ne_eq, not_true_eq_false, not_false_eq_true, ]; first | done | omega)) ?_)
          refine ok_some ⟨_, rfl, fun a j w1 w2 w3 => ?_, ?_, ?_, ?_, fun q => by omega⟩
          · rw [u2_n (by omega)]
            exact efg a j w1 w2 w3
          · rw [e1]
          · omega
          · rw [u2_self, if_neg (by omega), e2 hy0]
            exact g5
      refine ok_if (fun _ => fin) (fun _ => ?_)
      refine ok_ip (by decide) fin
    -- a token is taken, and on
    have go : ∀ (st' pt' : Nat) (C' : CX) (c' ws' : List Nat), PI (k + 1) st' pt' C' c' ws' → tTk b len k ≠ 27 → Ok (F_X8_take N (n32 (tTk b len k)) (mk σ g)) (fun _ σ' => ∃ f', σ' = mk σ f' ∧ eqP t g f' ∧ XI t f' (k + 1) st' pt' C' c' ws') → Ok (J_X8_parse_51 N (H_X8_parse_10 N (n' + 1)) (n32 0) (n32 k) (n32 (tTk b len k)) 0 (mk σ g)) (fun y σ' => ∃ f', σ' = mk σ f' ∧ eqX t f f' ∧ xOut t f' (run (tTk b len) (tPl b len) m (k + 1) st' pt' C' c' ws') y) := by
      intro st' pt' C' c' ws' hP' h27 htake
      unfold J_X8_parse_51 J_X8_parse_62
      refine ok_in (fun q => q rfl) ?_
      refine ok_oB (ok_mono htake (fun u σ' hq => ?_))
      obtain ⟨h, rfl, eh, hX'⟩ := hq
      have e1 : n32 k + 1 = n32 (k + 1) := by rw [show (1 : Int32) = n32 1 from rfl, n32_add]
      rw [e1]
      have hBh : XBy b len h := ⟨(eh _ _ (by omega) (by omega) (by omega)).trans gB.1, fun j hj => ⟨(eh _ _ (by omega) (by omega) (by omega)).trans (gB.2 j hj).1, (gB.2 j hj).2⟩⟩
      refine ok_mono (ih (k + 1) st' pt' C' c' ws' h (n' + 1) (by omega) (by omega) hBh ((eh _ _ (by omega) (by omega) (by omega)).trans g4) (fun j hj' => ?_) hX' hP') (fun y σ' hq => ?_)
      · by_cases ej : j = k
        · rw [ej]; exact h27
        · exact hj j (by omega)
      · obtain ⟨f', r1, r2, r3⟩ := hq
        refine ⟨f', r1, fun a j w1 w2 w3 => ?_, r3⟩
        rw [r2 a j w1 w2 w3, eh a j (by omega) w2 w3]
        exact efg a j w1 w2 w3
    by_cases hf : fit st pt (opn ws) (tTk b len k)
    · by_cases h27 : tTk b len k = 27
      · have ey : (if ¬ fit st pt (opn ws) (tTk b len k) then 1 else if tTk b len k = 27 ∨ rmo k st (opn ws) (xR C).length (tTk b len k) then 0 else 2) = 0 := by rw [if_neg (fun q => q hf), if_pos (Or.inl h27)]
        rw [ey, run_27 hf h27]
        refine ok_in (fun q => q rfl) ?_
        refine ok_in (fun q => q (by rw [h27]; rfl)) ?_
        have hs0 : st = 0 := by omega
        subst hs0
        refine stop 0 _ (by omega) rfl (fun q => absurd rfl q) (fun _ => ⟨⟨hR.2.2.1, hR.2.2.2⟩, a6, (xCd C c).length, by omega, a5.2.1, fun r u hu => ?_⟩)
        obtain ⟨p1, p2, p3, p4, p5⟩ := hP
        obtain ⟨rfl, rfl⟩ := p3 rfl
        have hpt := p2.2.2.1 rfl
        obtain ⟨v0, l0⟩ := p2.2.2.2.1 hpt
        have e0 := p2.2.2.2.2.1 (by omega)
        have ec : xCd C [] = fxc (xR C) := by
          unfold xCd
          rw [v0, l0, e0]
          simp [jc]
        have a52 := a5.2.2
        rw [ec] at a52 ⊢
        have := XRs_get (xR C) 0 0 a7 a52 (Nat.le_of_eq (Nat.zero_add _)) r u hu
        rw [Nat.zero_add] at this
        exact this
      · by_cases hr : rmo k st (opn ws) (xR C).length (tTk b len k)
        · have ey : (if ¬ fit st pt (opn ws) (tTk b len k) then 1 else if tTk b len k = 27 ∨ rmo k st (opn ws) (xR C).length (tTk b len k) then 0 else 2) = 0 := by rw [if_neg (fun q => q hf), if_pos (Or.inr hr)]
          rw [ey]
          refine ok_in (fun q => q rfl) ?_
          refine ok_ip (by first | assumption | omega | (simp (disch := omega) only [n32_of, neg_n32_1, n32_nat, n32_lt, n32_le, n32_eq, n32_add, n32_sub, n32_mul, n32_m1, m1_n32, n32_addm1, m1_lt, lt_m1, m1_le, le_m1, m1_add1, ofNat_n32, u2_self, u2_n, mk_I, mk_T, ne_eq, not_true_eq_false, not_false_eq_true, ]; first | done | omega)) ?_
          have hk := hr.1
          rcases (show st = 0 ∨ st = 1 ∨ st = 2 by omega) with rfl | rfl | rfl
          · rw [run_rule hf h27 hr]
            exact go _ _ _ _ _ (PI_rule hP hk (hr.2.1 rfl) (by omega)) h27 (x_tk_rule ht hT hXg hP hk (hr.2.1 rfl) (by omega))
          · by_cases h24 : tTk b len k = 24
            · rw [run_open h24 hr]
              exact go _ _ _ _ _ (PI_open hP hk (hr.2.2 h24)) h27 (by rw [h24]; exact x_tk_open ht hXg hP hk)
            · have ho : opd (tTk b len k) := by omega
              rw [run_opd ho hr]
              exact go _ _ _ _ _ (PI_opd hP hk ho (by omega)) h27 (x_tk_opd ht hT hXg hP hk (by omega) h24)
          · by_cases h25 : tTk b len k = 25
            · have ho : 0 < opn ws := by omega
              rw [run_close h25 ho hk]
              obtain ⟨s, e1, e2, e3⟩ := PI_close hP hk ho
              have := go _ _ _ _ _ e3 h27 (by rw [h25]; have := x_tk_close (N := N) (by omega) ht hT hXg hP hk ho; rw [e1] at this; exact this)
              rw [e1]
              exact this
            · by_cases hop : 17 ≤ tTk b len k ∧ tTk b len k ≤ 19
              · rw [run_op hop.1 hop.2 hk]
                exact go _ _ _ _ _ (PI_op hP hk (by omega)) h27 (x_tk_op (by omega) ht hT hXg hP hk (by omega))
              · have ho : opn ws = 0 := by omega
                by_cases h3 : tTk b len k = 3
                · have hpt : pt = 0 := by omega
                  subst hpt
                  rw [run_if h3 ho hk]
                  exact go _ _ _ _ _ (PI_if hP hk ho) h27 (by rw [h3]; exact x_tk_if (by omega) ht hT hXg hP hk ho)
                · by_cases h20 : 20 ≤ tTk b len k
                  · have hpt : pt = 1 := by omega
                    subst hpt
                    rw [run_rel h20 (by omega) ho hk]
                    exact go _ _ _ _ _ (PI_rel hP hk ho (by omega)) h27 (x_tk_rel (by omega) ht hT hXg hP hk ho h20 (by omega))
                  · by_cases h16 : tTk b len k = 16
                    · have hpt : pt = 0 ∨ pt = 2 := by omega
                      rw [run_semi h16 hpt ho hk]
                      exact go _ _ _ _ _ (PI_semi hP hpt hk ho) h27 (by rw [h16]; exact x_tk_semi (by omega) ht hT hXg hP hk ho hpt)
                    · have hpt : pt = 2 := by omega
                      subst hpt
                      have h45 : tTk b len k = 4 ∨ tTk b len k = 5 := by omega
                      rw [run_con h45 ho hk]
                      exact go _ _ _ _ _ (PI_con hP hk ho) h27 (x_tk_con (by omega) ht hT hXg hP hk ho h45)
        · have ey : (if ¬ fit st pt (opn ws) (tTk b len k) then 1 else if tTk b len k = 27 ∨ rmo k st (opn ws) (xR C).length (tTk b len k) then 0 else 2) = 2 := by rw [if_neg (fun q => q hf), if_neg (fun q => q.elim h27 hr)]
          rw [ey, run_room hf h27 hr]
          refine ok_ip (by decide) ?_
          exact stop 2 _ (by omega) rfl (fun _ => rfl) (fun q => by omega)
    · have ey : (if ¬ fit st pt (opn ws) (tTk b len k) then 1 else if tTk b len k = 27 ∨ rmo k st (opn ws) (xR C).length (tTk b len k) then 0 else 2) = 1 := by rw [if_pos hf]
      rw [ey, run_bad hf]
      refine ok_ip (by decide) ?_
      exact stop 1 _ (by omega) rfl (fun _ => rfl) (fun q => by omega)
theorem x_parse {b : Nat → Nat} {len : Nat} (hN : 3000 ≤ N) (hlen : len ≤ 2000) (ht : t = 2 ∨ 15 ≤ t) (hT : aTxt σ 1 2 = t) (hB : XBy b len f) : Ok (F_X8_parse N (mk σ f)) (fun y σ' => ∃ f', σ' = mk σ f' ∧ eqX t f f' ∧ xOut t f' (run (tTk b len) (tPl b len) 401 0 0 0 (cNew [] 0) [] []) y) := by
  unfold F_X8_parse F_X8_begin F_X10_clearRules
  refine ok_oB (ok_oB ?_)
  rw [mk_T, hT]
  repeat (first | with_reducible refine ok_W ?_ | with_reducible refine ok_cO (by first | assumption | omega | (simp (disch := omega) only [n32_of, neg_n32_1, n32_nat, n32_lt, n32_le, n32_eq, n32_add, n32_sub, n32_mul, n32_m1, m1_n32, n32_addm1, m1_lt, lt_m1, m1_le, le_m1, m1_add1, ofNat_n32, u2_self, u2_n, mk_I, mk_T, ne_eq, not_true_eq_false, not_false_eq_true, ]; first | done | omega)) ?_ | with_reducible refine ok_ip (by first | assumption | omega | (simp (disch := omega) only [n32_of, neg_n32_1, n32_nat, n32_lt, n32_le, n32_eq, n32_add, n32_sub, n32_mul, n32_m1, m1_n32, n32_addm1, m1_lt, lt_m1, m1_le, le_m1, m1_add1, ofNat_n32, u2_self, u2_n, mk_I, mk_T, ne_eq, not_true_eq_false, not_false_eq_true, ]; first | done | omega)) ?_ | with_reducible refine ok_in (by first | assumption | omega | (simp (disch := omega) only [n32_of, neg_n32_1, n32_nat, n32_lt, n32_le, n32_eq, n32_add, n32_sub, n32_mul, n32_m1, m1_n32, n32_addm1, m1_lt, lt_m1, m1_le, le_m1, m1_add1, ofNat_n32, u2_self, u2_n, mk_I, mk_T, ne_eq, not_true_eq_false, not_false_eq_true, ]; first | done | omega)) ?_)
  refine ok_some ?_
  repeat (first | with_reducible refine ok_W ?_ | with_reducible refine ok_cO (by first | assumption | omega | (simp (disch := omega) only [n32_of, neg_n32_1, n32_nat, n32_lt, n32_le, n32_eq, n32_add, n32_sub, n32_mul, n32_m1, m1_n32, n32_addm1, m1_lt, lt_m1, m1_le, le_m1, m1_add1, ofNat_n32, u2_self, u2_n, mk_I, mk_T, ne_eq, not_true_eq_false, not_false_eq_true, ]; first | done | omega)) ?_ | with_reducible refine ok_ip (by first | assumption | omega | (simp (disch := omega) only [n32_of, neg_n32_1, n32_nat, n32_lt, n32_le, n32_eq, n32_add, n32_sub, n32_mul, n32_m1, m1_n32, n32_addm1, m1_lt, lt_m1, m1_le, le_m1, m1_add1, ofNat_n32, u2_self, u2_n, mk_I, mk_T, ne_eq, not_true_eq_false, not_false_eq_true, ]; first | done | omega)) ?_ | with_reducible refine ok_in (by first | assumption | omega | (simp (disch := omega) only [n32_of, neg_n32_1, n32_nat, n32_lt, n32_le, n32_eq, n32_add, n32_sub, n32_mul, n32_m1, m1_n32, n32_addm1, m1_lt, lt_m1, m1_le, le_m1, m1_add1, ofNat_n32, u2_self, u2_n, mk_I, mk_T, ne_eq, not_true_eq_false, not_false_eq_true, ]; first | done | omega)) ?_)
  refine ok_some ?_
  refine ok_mono (x_parse_loop (b := b) (len := len) hN hlen ht hT 401 0 0 0 (cNew [] 0) [] [] _ N (by omega) (by omega) ⟨?_, fun j hj => ⟨?_, (hB.2 j hj).2⟩⟩ ?_ (fun j hj => by omega) ⟨⟨?_, ?_, fun q => absurd rfl q, ?_⟩, ⟨⟨?_, trivial⟩, ?_, fun j hj => absurd hj (Nat.not_lt_zero j)⟩, ?_, trivial, fun q => absurd rfl q⟩ PI_0) (fun y σ' hq => ?_)
  · simp (disch := omega) only [n32_of, neg_n32_1, n32_nat, n32_lt, n32_le, n32_eq, n32_add, n32_sub, n32_mul, n32_m1, m1_n32, n32_addm1, m1_lt, lt_m1, m1_le, le_m1, m1_add1, ofNat_n32, u2_self, u2_n, mk_I, mk_T, ]
    exact hB.1
  · simp (disch := omega) only [n32_of, neg_n32_1, n32_nat, n32_lt, n32_le, n32_eq, n32_add, n32_sub, n32_mul, n32_m1, m1_n32, n32_addm1, m1_lt, lt_m1, m1_le, le_m1, m1_add1, ofNat_n32, u2_self, u2_n, mk_I, mk_T, ]
    exact (hB.2 j hj).1
  · simp (disch := omega) only [n32_of, neg_n32_1, n32_nat, n32_lt, n32_le, n32_eq, n32_add, n32_sub, n32_mul, n32_m1, m1_n32, n32_addm1, m1_lt, lt_m1, m1_le, le_m1, m1_add1, ofNat_n32, u2_self, u2_n, mk_I, mk_T, ]
    rfl
  · simp (disch := omega) only [n32_of, neg_n32_1, n32_nat, n32_lt, n32_le, n32_eq, n32_add, n32_sub, n32_mul, n32_m1, m1_n32, n32_addm1, m1_lt, lt_m1, m1_le, le_m1, m1_add1, ofNat_n32, u2_self, u2_n, mk_I, mk_T, ]
  · simp (disch := omega) only [n32_of, neg_n32_1, n32_nat, n32_lt, n32_le, n32_eq, n32_add, n32_sub, n32_mul, n32_m1, m1_n32, n32_addm1, m1_lt, lt_m1, m1_le, le_m1, m1_add1, ofNat_n32, u2_self, u2_n, mk_I, mk_T, ]
  · simp (disch := omega) only [n32_of, neg_n32_1, n32_nat, n32_lt, n32_le, n32_eq, n32_add, n32_sub, n32_mul, n32_m1, m1_n32, n32_addm1, m1_lt, lt_m1, m1_le, le_m1, m1_add1, ofNat_n32, u2_self, u2_n, mk_I, mk_T, ]
    rfl
  · simp (disch := omega) only [n32_of, neg_n32_1, n32_nat, n32_lt, n32_le, n32_eq, n32_add, n32_sub, n32_mul, n32_m1, m1_n32, n32_addm1, m1_lt, lt_m1, m1_le, le_m1, m1_add1, ofNat_n32, u2_self, u2_n, mk_I, mk_T, ]
    rfl
  · simp (disch := omega) only [n32_of, neg_n32_1, n32_nat, n32_lt, n32_le, n32_eq, n32_add, n32_sub, n32_mul, n32_m1, m1_n32, n32_addm1, m1_lt, lt_m1, m1_le, le_m1, m1_add1, ofNat_n32, u2_self, u2_n, mk_I, mk_T, ]
    rfl
  · simp (disch := omega) only [n32_of, neg_n32_1, n32_nat, n32_lt, n32_le, n32_eq, n32_add, n32_sub, n32_mul, n32_m1, m1_n32, n32_addm1, m1_lt, lt_m1, m1_le, le_m1, m1_add1, ofNat_n32, u2_self, u2_n, mk_I, mk_T, ]
    rfl
  · obtain ⟨f', r1, r2, r3⟩ := hq
    refine ⟨f', r1, fun a j w1 w2 w3 => ?_, r3⟩
    rw [r2 a j w1 w2 w3]
    simp (disch := omega) only [n32_of, neg_n32_1, n32_nat, n32_lt, n32_le, n32_eq, n32_add, n32_sub, n32_mul, n32_m1, m1_n32, n32_addm1, m1_lt, lt_m1, m1_le, le_m1, m1_add1, ofNat_n32, u2_self, u2_n, mk_I, mk_T, ]
end XT3
