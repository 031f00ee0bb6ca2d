/-! ===== read, both sides ===== -/
def KY (σ : aSt) : Prop := ∀ k, k < 16 → aJ σ 242 k = i64 (kyw k)
/-- the two calls answer alike, and all stands again, with other references -/
def Same2 (σ : aSt) (X R : aSt → Option (Int32 × aSt)) (f : pln) : Prop := Ok (X (mk σ f)) (fun y σ1 => Ok (R σ1) (fun z σ2 => y = z ∧ ∃ σ' f' W, σ2 = mk σ' f' ∧ IV σ' f' W ∧ KY σ'))
theorem ok_WP {α : Type} {σ : aSt} {f : Nat → Nat → Int32} {a k : Nat} {v : Option Nat} {g : aSt → Option (α × aSt)} {Q : α → aSt → Prop} (h : Ok (g (mk (aWP σ a k v) f)) Q) : Ok (lt (aWP (mk σ f) a k v) g) Q := h
def cW (w : Nat) : Nat := if w = 0 then 11 else 47 + 9 * (w - 1)
def qW (w : Nat) : Nat := if w = 0 then 5 else 3
theorem txW_c (σ : aSt) (w : Nat) : txW σ w = aTxt σ (cW w) (qW w) := by
  unfold txW cW qW
  by_cases h : w = 0
  · rw [if_pos h, if_pos h, if_pos h]
  · rw [if_neg h, if_neg h, if_neg h]
theorem cW_f {w w' : Nat} : cW w ≠ 1 ∧ (cW w = cW w' → w = w') := by
  unfold cW
  split <;> split <;> omega
theorem eqD_out {pg w a k : Nat} {f f' : pln} (e : eqD pg w f f') (h : a < 235 ∨ 258 < a ∨ (a = 235 ∧ 37 ≤ k)) : f' a k = f a k := e a k (by omega) (by omega) (by omega) (by omega) (by omega) (by omega) (by omega) (by omega)
theorem tx_far {t t' : Nat} (h : isTx t) (h' : isTx t') (hn : t' ≠ t) : t' + 5 < t ∨ t + 5 < t' := by
  have a := tx_in h
  have b := tx_in h'
  omega
section ORD
variable {N : Nat} {σ : aSt} {f : pln} {len : Nat} {D : HD} {Y : LY} {s : Bool} {dr : Nat → SR} {st le : Nat → Nat} {ha : Nat → Nat → Nat} {sp nl : Nat → Nat} {rt : Nat → List Ru} {lw : Nat → Nat}
/-- what stands again behind both readings -/
theorem rd_IV {t w : Nat} {σ3 : aSt} {f1 f3 : pln} {O : Nat × Nat × List Ru} {y z : Int32} (hI : IVx σ f len D Y s dr st le ha sp nl rt lw) (hw : w < 7) (ht : aTxt σ 1 2 = t) (eX : eqX t f f1) (xo : xOut t f1 O y) (eD : eqD (2 * w + 1 - lw w) w (u2 f1 1 0 0) f3) (h2 : f3 235 2 = n32 0) (ro : rOut (2 * w + 1 - lw w) w (lw w) (u2 f1 1 0 0) f3 O z) (hP : (O.1 ≠ 0 → ∀ a k, aTxt σ3 a k = aTxt σ a k) ∧ (O.1 = 0 → aTxt σ3 1 2 = txW σ w ∧ txW σ3 w = t ∧ ∀ w', w' < 7 → w' ≠ w → txW σ3 w' = txW σ w')) : ∃ f' W, mk σ3 f3 = mk σ3 f' ∧ IV σ3 f' W := by
  obtain ⟨t0, p2, h3, h4, h5, h6, h7, h8⟩ := hI
  obtain ⟨⟨i1, i2⟩, i3⟩ := h8
  rw [ht] at i1
  have t8 := tx_in i1
  obtain ⟨xo1, xo2, xo3, xo4⟩ := xo
  obtain ⟨ro1, ro2, ro3, ro4⟩ := ro
  have hlw := (i3 w hw).2.2.1
  have tr : 2 ≤ t ∧ t ≤ 94 := by omega
  have fr : ∀ a k, (a ≠ 1 ∧ a ≠ 10 ∧ (a < t ∨ t + 5 < a)) → (a < 235 ∨ 258 < a ∨ (a = 235 ∧ 37 ≤ k)) → f3 a k = f a k := fun a k q1 q2 => by
    rw [eqD_out eD q2, u2_n (by omega)]
    exact eX a k (by omega) (by omega) (by omega)
  have frT : ∀ a k, 235 < a → (f3 a k = u2 f1 1 0 0 a k) → f3 a k = f a k := fun a k q1 q2 => by
    rw [q2, u2_n (by omega)]
    exact eX a k (by omega) (by omega) (by omega)
  have tape : sTape f3 0 := ⟨by omega, by rw [eqD_out eD (by omega), u2_self]; rfl, h2, fun j hj => by omega⟩
  have pl : sPl f3 := by
    unfold sPl
    rw [eqD_out eD (by omega), u2_n (by omega), xo3, ro2]
  have hall : sHall f3 D := sHall_cg h3 (fun a k q => fr a k (by omega) (by omega))
  have lor : sLor f3 Y := sLor_cg h4 (fun a k q => fr a k (by omega) (by omega))
  have day : sDay f3 s := sDay_cg h5 (fun a k q => fr a k (by omega) (by omega))
  have pur : sPur f3 D s ha sp nl := sPur_cg h3.1 h6 (fun a k q => fr a k (by omega) (by omega))
  have out : sOut f3 D Y s dr st le := sOut_cg h3.1 h4.1 h7 (fun a k q => fr a k (by omega) (by omega))
  have xt : ∀ t', isTx t' → t' ≠ t → ∀ rs, XT f t' rs → XT f3 t' rs := fun t' h' hn rs hx => by
    have far := tx_far i1 h' hn
    have b8 := tx_in h'
    have b9 : 2 ≤ t' ∧ t' ≤ 94 ∧ (t' = 2 ∨ 15 ≤ t') := by omega
    clear t8 b8
    exact XT_cg hx (fun k => fr _ _ (by omega) (by omega)) (fun k => fr _ _ (by omega) (by omega)) (fun k => fr _ _ (by omega) (by omega)) (fun k => fr _ _ (by omega) (by omega)) (fun k => fr _ _ (by omega) (by omega)) (fun k => fr _ _ (by omega) (by omega))
  have pgs : ∀ pg' rs, pg' ≠ 2 * w + 1 - lw w → RPg f pg' rs → RPg f3 pg' rs := fun pg' rs hn h => by
    clear t8
    generalize 2 * w + 1 - lw w = pg at hn eD
    refine RPg_ag h ⟨?_, fun a k q1 q2 q3 q4 => ?_, fun a k q1 q2 q3 q4 => ?_, fun a k q1 q2 q3 q4 => ?_⟩
    · exact frT _ _ (by omega) (eD _ _ (by omega) (by omega) (by omega) (by omega) (by omega) (by omega) (by omega) (by omega))
    · exact frT _ _ (by omega) (eD _ _ (by omega) (by omega) (by omega) (by omega) (by omega) (by omega) (by omega) (by omega))
    · exact frT _ _ (by omega) (eD _ _ (by omega) (by omega) (by omega) (by omega) (by omega) (by omega) (by omega) (by omega))
    · exact frT _ _ (by omega) (eD _ _ (by omega) (by omega) (by omega) (by omega) (by omega) (by omega) (by omega) (by omega))
  have lv : ∀ w', w' ≠ w → f3 243 w' = f 243 w' := fun w' hn => frT _ _ (by omega) (eD _ _ (by omega) (by omega) (by omega) (by omega) (by omega) (by omega) (by omega) (by omega))
  by_cases hO : O.1 = 0
  · obtain ⟨e1, e2, e3⟩ := hP.2 hO
    obtain ⟨ok, xtn⟩ := xo4 hO
    obtain ⟨rpn, lvn⟩ := ro3 hO
    refine IV_mk (len := 0) (D := D) (Y := Y) (s := s) (dr := dr) (st := st) (le := le) (ha := ha) (sp := sp) (nl := nl) (rt := fun i => if i = w then O.2.2 else rt i) (lw := fun i => if i = w then 1 - lw w else lw i) ⟨tape, pl, hall, lor, day, pur, out, ⟨?_, fun w' hw' => ?_⟩, fun w' hw' => ?_⟩
    · rw [e1]
      exact (i2 w hw).1
    · by_cases ew : w' = w
      · rw [ew, e2, e1]
        refine ⟨i1, fun q => (i2 w hw).2.1 (by rw [ht]; exact q.symm), fun w2 hw2 q => ?_⟩
        by_cases ew2 : w2 = w
        · exact ew2
        · rw [e3 w2 hw2 ew2] at q
          exact absurd (q.trans ht.symm) (i2 w2 hw2).2.1
      · rw [e3 w' hw' ew, e1]
        refine ⟨(i2 w' hw').1, fun q => ew ((i2 w hw).2.2 w' hw' q), fun w2 hw2 q => ?_⟩
        by_cases ew2 : w2 = w
        · rw [ew2, e2] at q
          exact absurd (q.symm.trans ht.symm) (i2 w' hw').2.1
        · rw [e3 w2 hw2 ew2] at q
          exact (i2 w' hw').2.2 w2 hw2 q
    · obtain ⟨a1, a2, a3, a4, a5⟩ := i3 w' hw'
      by_cases ew : w' = w
      · simp only [if_pos ew]
        rw [ew, e2]
        refine ⟨ok, ?_, by omega, lvn, ?_⟩
        · have b9 : t = 2 ∨ 15 ≤ t := by omega
          clear t8
          exact XT_cg xtn (fun k => by rw [eqD_out eD (by omega), u2_n (by omega)]) (fun k => by rw [eqD_out eD (by omega), u2_n (by omega)]) (fun k => by rw [eqD_out eD (by omega), u2_n (by omega)]) (fun k => by rw [eqD_out eD (by omega), u2_n (by omega)]) (fun k => by rw [eqD_out eD (by omega), u2_n (by omega)]) (fun k => by rw [eqD_out eD (by omega), u2_n (by omega)])
        · rw [show 2 * w + (1 - lw w) = 2 * w + 1 - lw w by omega]
          exact rpn
      · simp only [if_neg ew]
        rw [e3 w' hw' ew]
        exact ⟨a1, xt _ (i2 w' hw').1 (fun q => (i2 w' hw').2.1 (q.trans ht.symm)) _ a2, a3, (lv w' ew).trans a4, pgs _ _ (by omega) a5⟩
  · have eT := hP.1 hO
    have eW : ∀ w', txW σ3 w' = txW σ w' := fun w' => by rw [txW_c, txW_c, eT]
    have lvn := ro4 hO
    refine IV_mk (len := 0) (D := D) (Y := Y) (s := s) (dr := dr) (st := st) (le := le) (ha := ha) (sp := sp) (nl := nl) (rt := rt) (lw := lw) ⟨tape, pl, hall, lor, day, pur, out, ⟨?_, fun w' hw' => ?_⟩, fun w' hw' => ?_⟩
    · rw [eT, ht]
      exact i1
    · rw [eW w', eT]
      refine ⟨(i2 w' hw').1, (i2 w' hw').2.1, fun w2 hw2 q => ?_⟩
      rw [eW w2] at q
      exact (i2 w' hw').2.2 w2 hw2 q
    · obtain ⟨a1, a2, a3, a4, a5⟩ := i3 w' hw'
      rw [eW w']
      refine ⟨a1, xt _ (i2 w' hw').1 (fun q => (i2 w' hw').2.1 (q.trans ht.symm)) _ a2, a3, ?_, pgs _ _ ?_ a5⟩
      · by_cases ew : w' = w
        · rw [ew, lvn, u2_n (by omega), eX _ _ (by omega) (by omega) (by omega), ← ew]
          exact a4
        · exact (lv w' ew).trans a4
      · by_cases ew : w' = w
        · rw [ew]; omega
        · omega
theorem op_read (hN : 3000 ≤ N) (x : Int32) (hK : KY σ) (hI : IVx σ f len D Y s dr st le ha sp nl rt lw) : Same2 σ (F_X11_read N x) (F_X12_read N x) f := by
  have hI0 := hI
  obtain ⟨⟨t1, t2, t3, t4⟩, p2, h3, h4, h5, h6, h7, h8⟩ := hI
  have m6 : hm D ≤ 6 := h3.1.2.1
  have m11 : f 11 3 = n32 (hm D) := h3.2.1.2.1
  have m235 : f 235 43 = n32 (hm D) := h3.2.2.2.1
  have i1 := h8.1.1
  have t8 := tx_in i1
  have ht2 : aTxt σ 1 2 = 2 ∨ 15 ≤ aTxt σ 1 2 := by omega
  have tr : 2 ≤ aTxt σ 1 2 ∧ aTxt σ 1 2 ≤ 94 := by omega
  clear t8
  generalize hT : aTxt σ 1 2 = t at ht2 tr
  have hb : ∀ j, j < len → f 9 j = n32 (f 9 j).toNatClampNeg ∧ (f 9 j).toNatClampNeg < 256 := fun j hj => by
    obtain ⟨-, c, c1, c2⟩ := t4 j hj
    rw [c2, n32_nat (by omega)]
    exact ⟨rfl, c1⟩
  have hB : XBy (fun j => (f 9 j).toNatClampNeg) len f := ⟨t2, hb⟩
  -- the reference, once the program has read
  have core : ∀ (w : Nat) (σ1 : aSt) (f1 : pln) (y : Int32), w < 7 → x + 1 = n32 w → ¬ x < -1 → x < f 235 43 → eqX t f f1 → xOut t f1 (run (tTk (fun j => (f 9 j).toNatClampNeg) len) (tPl (fun j => (f 9 j).toNatClampNeg) len) 401 0 0 0 (cNew [] 0) [] []) y → (aJ σ1 = aJ σ) → (((run (tTk (fun j => (f 9 j).toNatClampNeg) len) (tPl (fun j => (f 9 j).toNatClampNeg) len) 401 0 0 0 (cNew [] 0) [] []).1 ≠ 0 → ∀ a k, aTxt σ1 a k = aTxt σ a k) ∧ ((run (tTk (fun j => (f 9 j).toNatClampNeg) len) (tPl (fun j => (f 9 j).toNatClampNeg) len) 401 0 0 0 (cNew [] 0) [] []).1 = 0 → aTxt σ1 1 2 = txW σ w ∧ txW σ1 w = t ∧ ∀ w', w' < 7 → w' ≠ w → txW σ1 w' = txW σ w')) → Ok (F_X12_read N x (mk σ1 (u2 f1 1 0 0))) (fun z σ2 => y = z ∧ ∃ σ' f' W, σ2 = mk σ' f' ∧ IV σ' f' W ∧ KY σ') := by
    intro w σ1 f1 y hw hxw hx1 hx2 eX xo eJ1 hP
    generalize hO : run (tTk (fun j => (f 9 j).toNatClampNeg) len) (tPl (fun j => (f 9 j).toNatClampNeg) len) 401 0 0 0 (cNew [] 0) [] [] = O at xo hP
    have hlw := (h8.2 w hw).2.2.1
    have hl := (h8.2 w hw).2.2.2.1
    have fx : ∀ a k, 234 < a → u2 f1 1 0 0 a k = f a k := fun a k q => by
      rw [u2_n (by omega)]
      exact eX a k (by omega) (by omega) (by omega)
    refine ok_mono (r_read (σ := σ1) (b := fun j => (f 9 j).toNatClampNeg) (w := w) (lw := lw w) hN t1 hw hlw hx1 (by rw [fx _ _ (by omega)]; exact hx2) hxw (by rw [fx _ _ (by omega)]; exact t3) (fun j hj => ?_) (by rw [fx _ _ (by omega)]; exact hl) (fun k hk => by rw [eJ1]; exact hK k hk)) (fun z σ2 hq => ?_)
    · rw [fx _ _ (by omega), ← (t4 j hj).1]
      exact hb j hj
    · obtain ⟨σ3, f3, rfl, j1, eD, e2, ro⟩ := hq
      rw [hO] at ro
      refine ⟨?_, ?_⟩
      · rw [xo.1, ro.1]
      · have eT3 : ∀ a k, aTxt σ3 a k = aTxt σ1 a k := fun a k => by
          unfold aTxt
          rw [j1.1]
        obtain ⟨f', W, q1, q2⟩ := rd_IV (σ3 := σ3) hI0 hw hT eX xo eD e2 ro ⟨fun q a k => (eT3 a k).trans (hP.1 q a k), fun q => by
          obtain ⟨a1, a2, a3⟩ := hP.2 q
          refine ⟨(eT3 _ _).trans a1, ?_, fun w' hw' hn => ?_⟩
          · rw [txW_c, eT3, ← txW_c]
            exact a2
          · rw [txW_c, eT3, ← txW_c]
            exact a3 w' hw' hn⟩
        refine ⟨σ3, f', W, q1, q2, fun k hk => ?_⟩
        rw [j1.2 k, eJ1]
        exact hK k hk
  -- the program
  have prog : ∀ w, w < 7 → x + 1 = n32 w → ¬ x < -1 → x < f 235 43 → (w = 0 → x = -1) → (w ≠ 0 → x = n32 (w - 1) ∧ w - 1 < hm D) → Ok (J_X11_read_19 N x (mk σ f)) (fun y σ1 => Ok (F_X12_read N x σ1) (fun z σ2 => y = z ∧ ∃ σ' f' W, σ2 = mk σ' f' ∧ IV σ' f' W ∧ KY σ')) := by
    intro w hw hxw hx1 hx2 hw0 hw1
    unfold J_X11_read_19 J_X11_read_61
    refine ok_oB (ok_mono (x_parse (b := fun j => (f 9 j).toNatClampNeg) hN t1 ht2 hT hB) (fun y σ' hq => ?_))
    obtain ⟨f1, rfl, eX, xo⟩ := hq
    have co := core w
    generalize hO : run (tTk (fun j => (f 9 j).toNatClampNeg) len) (tPl (fun j => (f 9 j).toNatClampNeg) len) 401 0 0 0 (cNew [] 0) [] [] = O at xo co
    have xo1 := xo.1
    have xo2 := xo.2.1
    refine ok_W ?_
    by_cases h0 : O.1 = 0
    · rw [h0] at xo1
      refine ok_in (fun q => q xo1) ?_
      rw [mk_T, hT]
      have n11 : u2 f1 1 0 0 11 3 = n32 (hm D) := by
        rw [u2_n (by omega), eX _ _ (by omega) (by omega) (by omega)]
        exact m11
      unfold F_X2_exchangeText J_X2_exchangeText_41
      rw [s_hasBuyer]
      refine ok_oB (ok_oB (ok_some ?_))
      by_cases hz : w = 0
      · have hx := hw0 hz
        refine ok_ip (nz (fun q => q.1 (by rw [hx]; decide))) ?_
        refine ok_WP ?_
        refine ok_some ?_
        refine ok_WP ?_
        refine ok_some ?_
        refine co _ f1 y hw hxw hx1 hx2 eX xo rfl ⟨fun q => absurd h0 q, fun _ => ?_⟩
        subst hz
        have eo : aTxt (mk σ (u2 f1 1 0 0)) 11 5 = txW σ 0 := rfl
        rw [eo]
        refine ⟨?_, ?_, fun w' hw' hn => ?_⟩
        · show (u2 (u2 (aP σ) 11 5 (some t)) 1 2 (some (txW σ 0)) 1 2).getD 0 = _
          rw [u2_self]; rfl
        · show (u2 (u2 (aP σ) 11 5 (some t)) 1 2 (some (txW σ 0)) 11 5).getD 0 = _
          rw [u2_n (by omega), u2_self]; rfl
        · rw [txW_c _ w', txW_c σ w']
          show (u2 (u2 (aP σ) 11 5 (some t)) 1 2 (some (txW σ 0)) (cW w') (qW w')).getD 0 = (aP σ (cW w') (qW w')).getD 0
          have c1 := (cW_f (w := w') (w' := 0)).1
          have c2 : cW w' ≠ 11 := fun q => hn ((cW_f (w := w') (w' := 0)).2 q)
          rw [u2_n (Or.inl c1), u2_n (Or.inl c2)]
      · obtain ⟨hx, hxb⟩ := hw1 hz
        obtain ⟨i, rfl⟩ : ∃ i, w = i + 1 := ⟨w - 1, by omega⟩
        rw [Nat.add_sub_cancel] at hx hxb
        refine ok_in (yz ⟨by rw [hx]; first | assumption | omega | (simp (disch := omega) only [n32_of, neg_n32_1, n32_nat, n32_lt, n32_le, n32_eq, n32_add, n32_sub, n32_mul, n32_m1, m1_n32, n32_addm1, m1_lt, lt_m1, m1_le, le_m1, m1_add1, ofNat_n32, u2_self, u2_n, mk_I, mk_T, ne_eq, not_true_eq_false, not_false_eq_true, ]; first | done | omega), by rw [hx, mk_I, n11, n32_lt (by omega) (by omega)]; exact hxb⟩) ?_
        have cc : ¬ (x < 0 ∨ 6 ≤ x.toNatClampNeg) := by rw [hx]; first | assumption | omega | (simp (disch := omega) only [n32_of, neg_n32_1, n32_nat, n32_lt, n32_le, n32_eq, n32_add, n32_sub, n32_mul, n32_m1, m1_n32, n32_addm1, m1_lt, lt_m1, m1_le, le_m1, m1_add1, ofNat_n32, u2_self, u2_n, mk_I, mk_T, ne_eq, not_true_eq_false, not_false_eq_true, ]; first | done | omega)
        refine ok_cO cc ?_
        refine ok_cO cc ?_
        have en : x.toNatClampNeg = i := by rw [hx, n32_nat (by omega)]
        rw [en]
        refine ok_WP ?_
        refine ok_some ?_
        refine ok_WP ?_
        refine ok_some ?_
        refine co _ f1 y hw hxw hx1 hx2 eX xo rfl ⟨fun q => absurd h0 q, fun _ => ?_⟩
        have ec : cW (i + 1) = 47 + 9 * i := by
          unfold cW
          rw [if_neg (by omega), Nat.add_sub_cancel]
        have eq : qW (i + 1) = 3 := by
          unfold qW
          rw [if_neg (by omega)]
        have eo : aTxt (mk σ (u2 f1 1 0 0)) (47 + 9 * i) 3 = txW σ (i + 1) := by
          rw [txW_c, ec, eq]
          rfl
        rw [eo]
        refine ⟨?_, ?_, fun w' hw' hn => ?_⟩
        · show (u2 (u2 (aP σ) (47 + 9 * i) 3 (some t)) 1 2 (some (txW σ (i + 1))) 1 2).getD 0 = _
          rw [u2_self]; rfl
        · rw [txW_c, ec, eq]
          show (u2 (u2 (aP σ) (47 + 9 * i) 3 (some t)) 1 2 (some (txW σ (i + 1))) (47 + 9 * i) 3).getD 0 = _
          rw [u2_n (by omega), u2_self]; rfl
        · rw [txW_c _ w', txW_c σ w']
          show (u2 (u2 (aP σ) (47 + 9 * i) 3 (some t)) 1 2 (some (txW σ (i + 1))) (cW w') (qW w')).getD 0 = (aP σ (cW w') (qW w')).getD 0
          have c1 := (cW_f (w := w') (w' := i + 1)).1
          have c2 : cW w' ≠ 47 + 9 * i := fun q => hn ((cW_f (w := w') (w' := i + 1)).2 (q.trans ec.symm))
          rw [u2_n (Or.inl c1), u2_n (Or.inl c2)]
    · refine ok_ip (by rw [xo1, show (0 : Int32) = n32 0 from rfl, ne_eq, n32_eq (by omega) (by omega)]; exact h0) ?_
      refine ok_some ?_
      exact co σ f1 y hw hxw hx1 hx2 eX xo rfl ⟨fun _ _ _ => rfl, fun q => absurd q h0⟩
  have none2 : F_X11_read N x (mk σ f) = some (-2, mk σ f) → F_X12_read N x (mk σ f) = some (-2, mk σ f) → Same2 σ (F_X11_read N x) (F_X12_read N x) f := fun e1 e2 => by
    obtain ⟨f', W, q1, q2⟩ := IV_mk hI0
    exact ⟨_, _, e1, _, _, e2, rfl, σ, f', W, q1, q2, hK⟩
  by_cases hm1 : x = -1
  · unfold Same2 F_X11_read
    refine ok_ip hm1 ?_
    refine prog 0 (by omega) (by rw [hm1]; decide) (by rw [hm1]; decide) ?_ (fun _ => hm1) (fun q => absurd rfl q)
    rw [hm1, m235]
    show m1 < n32 (hm D)
    rw [m1_lt (by omega)]
    trivial
  · rcases i32_rng x with ⟨i, hi, rfl⟩ | hx
    · have nlt : ¬ n32 i < -1 := by
        show ¬ n32 i < m1
        rw [lt_m1 hi]
        exact fun q => q
      by_cases hb : i < hm D
      · unfold Same2 F_X11_read
        refine ok_in hm1 ?_
        rw [s_hasBuyer]
        refine ok_oB (ok_some ?_)
        refine ok_ip (yz ⟨by first | assumption | omega | (simp (disch := omega) only [n32_of, neg_n32_1, n32_nat, n32_lt, n32_le, n32_eq, n32_add, n32_sub, n32_mul, n32_m1, m1_n32, n32_addm1, m1_lt, lt_m1, m1_le, le_m1, m1_add1, ofNat_n32, u2_self, u2_n, mk_I, mk_T, ne_eq, not_true_eq_false, not_false_eq_true, ]; first | done | omega), by rw [mk_I, m11, n32_lt hi (by omega)]; exact hb⟩) ?_
        refine prog (i + 1) (by omega) (by rw [show (1 : Int32) = n32 1 from rfl, n32_add]) nlt ?_ (fun q => by omega) (fun _ => ⟨rfl, hb⟩)
        rw [m235, n32_lt hi (by omega)]
        exact hb
      · refine none2 ?_ ?_
        · unfold F_X11_read
          rw [if_neg hm1, s_hasBuyer, oB_s, if_neg]
          exact fun q => q (nz (fun z => by
            have z2 := z.2
            rw [mk_I, m11, n32_lt hi (by omega)] at z2
            exact hb z2))
        · unfold F_X12_read J_X12_read_13
          rw [if_neg nlt, if_neg]
          rw [mk_I, m235, n32_lt hi (by omega)]
          exact hb
    · refine none2 ?_ ?_
      · unfold F_X11_read
        rw [if_neg hm1, s_hasBuyer, oB_s, if_neg]
        exact fun q => q (nz (fun z => z.1 hx))
      · unfold F_X12_read J_X12_read_13
        rw [if_pos]
        rw [Int32.lt_iff_toInt_lt] at hx ⊢
        have e1 : (-1 : Int32).toInt = -1 := by decide
        have e0 : (0 : Int32).toInt = 0 := by decide
        have ne : x.toInt ≠ -1 := fun q => hm1 (Int32.toInt_inj.mp (q.trans e1.symm))
        omega
end ORD
