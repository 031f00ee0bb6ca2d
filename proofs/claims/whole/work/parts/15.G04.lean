def sumB (bx : Nat → Nat) : List Nat → Nat
  | [] => 0
  | l :: ls => bx l + sumB bx ls
theorem sumB_app (bx : Nat → Nat) (a b : List Nat) : sumB bx (a ++ b) = sumB bx a + sumB bx b := by
  induction a with
  | nil => rw [List.nil_append, sumB, Nat.zero_add]
  | cons x a ih => rw [List.cons_append, sumB, sumB, ih, Nat.add_assoc]
section XFILL2
variable {N v : Nat} {σ : aSt} {D : HD} {Y : LY} {dr : Nat → SR}
/-- what a load leaves alone -/
def eqF (v : Nat) (f f' : Nat → Nat → Int32) : Prop := ∀ a k, ¬ (193 ≤ a ∧ a ≤ 221) → ¬ (a = 223 + 2 * v ∧ (k = 3 ∨ k = 5)) → a ≠ 224 + 2 * v → ¬ (105 ≤ a ∧ a < 129 ∧ k = 7) → f' a k = f a k
theorem eqF_rfl {f : Nat → Nat → Int32} : eqF v f f := fun _ _ _ _ _ _ => rfl
theorem eqF_tr {f g h : Nat → Nat → Int32} (h1 : eqF v f g) (h2 : eqF v g h) : eqF v f h := fun a k p1 p2 p3 p4 => (h2 a k p1 p2 p3 p4).trans (h1 a k p1 p2 p3 p4)
/-- a lorry's lots -/
def ldX (f : Nat → Nat → Int32) (D : HD) (v : Nat) (T : List Nat) : Prop := f (223 + 2 * v) 3 = n32 (sumB (lo D 3) T) ∧ f (223 + 2 * v) 5 = n32 T.length ∧ rowL f (223 + 2 * v + 1) T
theorem x_take {ls : List Nat} {r : Nat} {f0 : Nat → Nat → Int32} (hD : HOK D) (hv : v < 6) (hr : r ≤ 60) (hls : ls.length ≤ 24) (hb : ∀ l ∈ ls, l < hn D) (hnd : ls.Nodup) (hc : f0 193 2 = n32 ls.length) (h4 : rowL f0 194 ls) (h5 : rowL f0 195 (ls.map (lo D 3))) (hrow : ∀ i, i ≤ ls.length → rowF f0 (ls.map (lo D 3)) r i) (on0 : Nat → Option Nat) (h7 : ∀ l, l < hn D → f0 (105 + l) 7 = oI (on0 l)) : ∀ (n i rest : Nat) (T : List Nat) (f : Nat → Nat → Int32), ls.length < n + i → i ≤ ls.length → rest ≤ r → T.length ≤ i → eqF v f0 f → (∀ a k, 193 ≤ a → a ≤ 221 → f a k = f0 a k) → ldX f D v T → (∀ l, l < hn D → f (105 + l) 7 = if l ∈ T then n32 v else oI (on0 l)) → Ok (H_X3_fill_40 N n (223 + 2 * v) (n32 v) 101 (n32 rest) (n32 i) (mk σ f)) (fun _ σ' => ∃ f', σ' = mk σ f' ∧ eqF v f0 f' ∧ ldX f' D v (T ++ selX (lo D 3) (ls.drop i) rest) ∧ ∀ l, l < hn D → f' (105 + l) 7 = if l ∈ T ++ selX (lo D 3) (ls.drop i) rest then n32 v else oI (on0 l)) := by
  have n24 := hD.1
  intro n
  induction n with
  | zero => intro i rest T f h1 h2; omega
  | succ n ih =>
    intro i rest T f h1 h2 h3 hT he hs hld h7f
    have hcf := (hs 193 2 (by omega) (by omega)).trans hc
    rw [H_X3_fill_40]
    unfold J_X3_fill_147
    by_cases hi : ls.length ≤ i
    · with_reducible refine ok_ip (by first | assumption | omega | (simp (disch := omega) only [n32_of, neg_n32_1, n32_nat, n32_lt, n32_le, n32_eq, n32_add, n32_sub, n32_mul, n32_m1, m1_n32, n32_addm1, m1_lt, lt_m1, m1_le, le_m1, m1_add1, ofNat_n32, u2_self, u2_n, mk_I, mk_T, ne_eq, not_true_eq_false, not_false_eq_true, hcf]; first | done | omega)) ?_
      rw [List.drop_eq_nil_of_le hi, selX, List.append_nil]
      exact ok_some ⟨f, rfl, he, hld, h7f⟩
    · with_reducible refine ok_in (by first | assumption | omega | (simp (disch := omega) only [n32_of, neg_n32_1, n32_nat, n32_lt, n32_le, n32_eq, n32_add, n32_sub, n32_mul, n32_m1, m1_n32, n32_addm1, m1_lt, lt_m1, m1_le, le_m1, m1_add1, ofNat_n32, u2_self, u2_n, mk_I, mk_T, ne_eq, not_true_eq_false, not_false_eq_true, hcf]; first | done | omega)) ?_
      have hlt : i < ls.length := by omega
      have hget : ls[i]? = some ls[i] := List.getElem?_eq_getElem hlt
      generalize hli : ls[i] = l at hget
      have hlm := hb l (List.mem_of_getElem? hget)
      have dl := hD.2.2.1 l hlm
      have hdrop : ls.drop i = l :: ls.drop (i + 1) := by rw [List.drop_eq_getElem_cons hlt, hli]
      have e4 : f 194 i = n32 l := (hs _ _ (by omega) (by omega)).trans (h4 i l hget)
      have e5 : f 195 i = n32 (lo D 3 l) := (hs _ _ (by omega) (by omega)).trans (h5 i _ (by rw [List.getElem?_map, hget]; rfl))
      have er : f (197 + i) rest = n32 (few ((ls.drop i).map (lo D 3)) rest) := by
        rw [hs _ _ (by omega) (by omega), hrow i (by omega) rest h3, List.map_drop]
      have b1 := few_le ((ls.drop i).map (lo D 3)) rest
      have eskip : ¬ (lo D 3 l ≤ rest ∧ few ((ls.drop (i + 1)).map (lo D 3)) (rest - lo D 3 l) + 1 = few ((l :: ls.drop (i + 1)).map (lo D 3)) rest) → Ok (H_X3_fill_40 N n (223 + 2 * v) (n32 v) 101 (n32 rest) (n32 (i + 1)) (mk σ f)) (fun _ σ' => ∃ f', σ' = mk σ f' ∧ eqF v f0 f' ∧ ldX f' D v (T ++ selX (lo D 3) (ls.drop i) rest) ∧ ∀ l, l < hn D → f' (105 + l) 7 = if l ∈ T ++ selX (lo D 3) (ls.drop i) rest then n32 v else oI (on0 l)) := by
        intro hno
        rw [hdrop, selX, if_neg hno]
        exact ih (i + 1) rest T f (by omega) (by omega) h3 (by omega) he hs hld h7f
      with_reducible refine ok_cO (by first | assumption | omega | (simp (disch := omega) only [n32_of, neg_n32_1, n32_nat, n32_lt, n32_le, n32_eq, n32_add, n32_sub, n32_mul, n32_m1, m1_n32, n32_addm1, m1_lt, lt_m1, m1_le, le_m1, m1_add1, ofNat_n32, u2_self, u2_n, mk_I, mk_T, ne_eq, not_true_eq_false, not_false_eq_true, ]; first | done | omega)) ?_
      with_reducible refine ok_cO (by first | assumption | omega | (simp (disch := omega) only [n32_of, neg_n32_1, n32_nat, n32_lt, n32_le, n32_eq, n32_add, n32_sub, n32_mul, n32_m1, m1_n32, n32_addm1, m1_lt, lt_m1, m1_le, le_m1, m1_add1, ofNat_n32, u2_self, u2_n, mk_I, mk_T, ne_eq, not_true_eq_false, not_false_eq_true, ]; first | done | omega)) ?_
      with_reducible refine ok_cO (by first | assumption | omega | (simp (disch := omega) only [n32_of, neg_n32_1, n32_nat, n32_lt, n32_le, n32_eq, n32_add, n32_sub, n32_mul, n32_m1, m1_n32, n32_addm1, m1_lt, lt_m1, m1_le, le_m1, m1_add1, ofNat_n32, u2_self, u2_n, mk_I, mk_T, ne_eq, not_true_eq_false, not_false_eq_true, ]; first | done | omega)) ?_
      by_cases hbl : lo D 3 l ≤ rest
      · with_reducible refine ok_in (by first | assumption | omega | (simp (disch := omega) only [n32_of, neg_n32_1, n32_nat, n32_lt, n32_le, n32_eq, n32_add, n32_sub, n32_mul, n32_m1, m1_n32, n32_addm1, m1_lt, lt_m1, m1_le, le_m1, m1_add1, ofNat_n32, u2_self, u2_n, mk_I, mk_T, ne_eq, not_true_eq_false, not_false_eq_true, e5]; first | done | omega)) ?_
        with_reducible refine ok_cO (by first | assumption | omega | (simp (disch := omega) only [n32_of, neg_n32_1, n32_nat, n32_lt, n32_le, n32_eq, n32_add, n32_sub, n32_mul, n32_m1, m1_n32, n32_addm1, m1_lt, lt_m1, m1_le, le_m1, m1_add1, ofNat_n32, u2_self, u2_n, mk_I, mk_T, ne_eq, not_true_eq_false, not_false_eq_true, ]; first | done | omega)) ?_
        with_reducible refine ok_cO (by first | assumption | omega | (simp (disch := omega) only [n32_of, neg_n32_1, n32_nat, n32_lt, n32_le, n32_eq, n32_add, n32_sub, n32_mul, n32_m1, m1_n32, n32_addm1, m1_lt, lt_m1, m1_le, le_m1, m1_add1, ofNat_n32, u2_self, u2_n, mk_I, mk_T, ne_eq, not_true_eq_false, not_false_eq_true, ]; first | done | omega)) ?_
        with_reducible refine ok_cO (by first | assumption | omega | (simp (disch := omega) only [n32_of, neg_n32_1, n32_nat, n32_lt, n32_le, n32_eq, n32_add, n32_sub, n32_mul, n32_m1, m1_n32, n32_addm1, m1_lt, lt_m1, m1_le, le_m1, m1_add1, ofNat_n32, u2_self, u2_n, mk_I, mk_T, ne_eq, not_true_eq_false, not_false_eq_true, e5]; first | done | omega)) ?_
        have er1 : f (197 + (i + 1)) (rest - lo D 3 l) = n32 (few ((ls.drop (i + 1)).map (lo D 3)) (rest - lo D 3 l)) := by
          rw [hs _ _ (by omega) (by omega), hrow (i + 1) (by omega) _ (by omega), List.map_drop]
        have b2 := few_le ((ls.drop (i + 1)).map (lo D 3)) (rest - lo D 3 l)
        rw [hdrop] at er b1
        by_cases htk : few ((ls.drop (i + 1)).map (lo D 3)) (rest - lo D 3 l) + 1 = few ((l :: ls.drop (i + 1)).map (lo D 3)) rest
        · with_reducible refine ok_in (by first | assumption | omega | (simp (disch := omega) only [n32_of, neg_n32_1, n32_nat, n32_lt, n32_le, n32_eq, n32_add, n32_sub, n32_mul, n32_m1, m1_n32, n32_addm1, m1_lt, lt_m1, m1_le, le_m1, m1_add1, ofNat_n32, u2_self, u2_n, mk_I, mk_T, ne_eq, not_true_eq_false, not_false_eq_true, e5, er, er1]; first | done | omega)) ?_
          with_reducible refine ok_cO (by first | assumption | omega | (simp (disch := omega) only [n32_of, neg_n32_1, n32_nat, n32_lt, n32_le, n32_eq, n32_add, n32_sub, n32_mul, n32_m1, m1_n32, n32_addm1, m1_lt, lt_m1, m1_le, le_m1, m1_add1, ofNat_n32, u2_self, u2_n, mk_I, mk_T, ne_eq, not_true_eq_false, not_false_eq_true, ]; first | done | omega)) ?_
          with_reducible refine ok_cO (by first | assumption | omega | (simp (disch := omega) only [n32_of, neg_n32_1, n32_nat, n32_lt, n32_le, n32_eq, n32_add, n32_sub, n32_mul, n32_m1, m1_n32, n32_addm1, m1_lt, lt_m1, m1_le, le_m1, m1_add1, ofNat_n32, u2_self, u2_n, mk_I, mk_T, ne_eq, not_true_eq_false, not_false_eq_true, ]; first | done | omega)) ?_
          with_reducible refine ok_cO (by first | assumption | omega | (simp (disch := omega) only [n32_of, neg_n32_1, n32_nat, n32_lt, n32_le, n32_eq, n32_add, n32_sub, n32_mul, n32_m1, m1_n32, n32_addm1, m1_lt, lt_m1, m1_le, le_m1, m1_add1, ofNat_n32, u2_self, u2_n, mk_I, mk_T, ne_eq, not_true_eq_false, not_false_eq_true, ]; first | done | omega)) ?_
          unfold F_X4_put J_X4_put_39
          obtain ⟨q3, q5, qr⟩ := hld
          simp (disch := omega) only [n32_of, neg_n32_1, n32_nat, n32_lt, n32_le, n32_eq, n32_add, n32_sub, n32_mul, n32_m1, m1_n32, n32_addm1, m1_lt, lt_m1, m1_le, le_m1, m1_add1, ofNat_n32, u2_self, u2_n, mk_I, mk_T, e4, e5]
          refine ok_oB ?_
          repeat (first | with_reducible refine ok_W ?_ | with_reducible refine ok_cO (by first | assumption | omega | (simp (disch := omega) only [n32_of, neg_n32_1, n32_nat, n32_lt, n32_le, n32_eq, n32_add, n32_sub, n32_mul, n32_m1, m1_n32, n32_addm1, m1_lt, lt_m1, m1_le, le_m1, m1_add1, ofNat_n32, u2_self, u2_n, mk_I, mk_T, ne_eq, not_true_eq_false, not_false_eq_true, q5]; first | done | omega)) ?_ | with_reducible refine ok_ip (by first | assumption | omega | (simp (disch := omega) only [n32_of, neg_n32_1, n32_nat, n32_lt, n32_le, n32_eq, n32_add, n32_sub, n32_mul, n32_m1, m1_n32, n32_addm1, m1_lt, lt_m1, m1_le, le_m1, m1_add1, ofNat_n32, u2_self, u2_n, mk_I, mk_T, ne_eq, not_true_eq_false, not_false_eq_true, q5]; first | done | omega)) ?_ | with_reducible refine ok_in (by first | assumption | omega | (simp (disch := omega) only [n32_of, neg_n32_1, n32_nat, n32_lt, n32_le, n32_eq, n32_add, n32_sub, n32_mul, n32_m1, m1_n32, n32_addm1, m1_lt, lt_m1, m1_le, le_m1, m1_add1, ofNat_n32, u2_self, u2_n, mk_I, mk_T, ne_eq, not_true_eq_false, not_false_eq_true, q5]; first | done | omega)) ?_)
          refine ok_some ?_
          have hsum : sumB (lo D 3) T ≤ 20 * 24 ∨ True := Or.inr trivial
          repeat (first | with_reducible refine ok_W ?_ | with_reducible refine ok_cO (by first | assumption | omega | (simp (disch := omega) only [n32_of, neg_n32_1, n32_nat, n32_lt, n32_le, n32_eq, n32_add, n32_sub, n32_mul, n32_m1, m1_n32, n32_addm1, m1_lt, lt_m1, m1_le, le_m1, m1_add1, ofNat_n32, u2_self, u2_n, mk_I, mk_T, ne_eq, not_true_eq_false, not_false_eq_true, e4]; first | done | omega)) ?_ | with_reducible refine ok_ip (by first | assumption | omega | (simp (disch := omega) only [n32_of, neg_n32_1, n32_nat, n32_lt, n32_le, n32_eq, n32_add, n32_sub, n32_mul, n32_m1, m1_n32, n32_addm1, m1_lt, lt_m1, m1_le, le_m1, m1_add1, ofNat_n32, u2_self, u2_n, mk_I, mk_T, ne_eq, not_true_eq_false, not_false_eq_true, e4]; first | done | omega)) ?_ | with_reducible refine ok_in (by first | assumption | omega | (simp (disch := omega) only [n32_of, neg_n32_1, n32_nat, n32_lt, n32_le, n32_eq, n32_add, n32_sub, n32_mul, n32_m1, m1_n32, n32_addm1, m1_lt, lt_m1, m1_le, le_m1, m1_add1, ofNat_n32, u2_self, u2_n, mk_I, mk_T, ne_eq, not_true_eq_false, not_false_eq_true, e4]; first | done | omega)) ?_)
          simp (disch := omega) only [n32_of, neg_n32_1, n32_nat, n32_lt, n32_le, n32_eq, n32_add, n32_sub, n32_mul, n32_m1, m1_n32, n32_addm1, m1_lt, lt_m1, m1_le, le_m1, m1_add1, ofNat_n32, u2_self, u2_n, mk_I, mk_T, e4, q5, q3]
          have hih := ih (i + 1) (rest - lo D 3 l) (T ++ [l]) (u2 (u2 (u2 (u2 f (223 + 2 * v + 1) T.length (n32 l)) (223 + 2 * v) 5 (n32 (T.length + 1))) (223 + 2 * v) 3 (n32 (sumB (lo D 3) T + lo D 3 l))) (101 + 4 + l) 7 (n32 v)) (by omega) (by omega) (by omega) (by rw [List.length_append, List.length_singleton]; omega) ?_ ?_ ?_ ?_
          · rw [hdrop, selX, if_pos ⟨hbl, htk⟩]
            rw [List.append_assoc, List.singleton_append] at hih
            exact hih
          · intro a k p1 p2 p3 p4
            rw [u2_n (by omega), u2_n (by omega), u2_n (by omega), u2_n (by omega)]
            exact he a k p1 p2 p3 p4
          · intro a k p1 p2
            rw [u2_n (by omega), u2_n (by omega), u2_n (by omega), u2_n (by omega)]
            exact hs a k p1 p2
          · refine ⟨?_, ?_, ?_⟩
            · rw [sumB_app]
              show _ = n32 (sumB (lo D 3) T + (lo D 3 l + 0))
              simp (disch := omega) only [n32_of, neg_n32_1, n32_nat, n32_lt, n32_le, n32_eq, n32_add, n32_sub, n32_mul, n32_m1, m1_n32, n32_addm1, m1_lt, lt_m1, m1_le, le_m1, m1_add1, ofNat_n32, u2_self, u2_n, mk_I, mk_T, ]
              rfl
            · rw [List.length_append]
              simp (disch := omega) only [n32_of, neg_n32_1, n32_nat, n32_lt, n32_le, n32_eq, n32_add, n32_sub, n32_mul, n32_m1, m1_n32, n32_addm1, m1_lt, lt_m1, m1_le, le_m1, m1_add1, ofNat_n32, u2_self, u2_n, mk_I, mk_T, ]
              rfl
            · refine rowL_cg (rowL_snoc (x := l) qr) (fun k => ?_)
              rw [u2_n (by omega), u2_n (by omega), u2_n (by omega)]
          · intro l' hl'
            by_cases e : l' = l
            · subst e
              rw [show 105 + l' = 101 + 4 + l' by omega, u2_self, if_pos (by simp)]
            · rw [u2_n (by omega), u2_n (by omega), u2_n (by omega), u2_n (by omega), h7f l' hl']
              by_cases hm : l' ∈ T
              · rw [if_pos hm, if_pos (by simp [hm])]
              · rw [if_neg hm, if_neg (by simp [hm, e])]
        · with_reducible refine ok_ip (by first | assumption | omega | (simp (disch := omega) only [n32_of, neg_n32_1, n32_nat, n32_lt, n32_le, n32_eq, n32_add, n32_sub, n32_mul, n32_m1, m1_n32, n32_addm1, m1_lt, lt_m1, m1_le, le_m1, m1_add1, ofNat_n32, u2_self, u2_n, mk_I, mk_T, ne_eq, not_true_eq_false, not_false_eq_true, e5, er, er1]; first | done | omega)) ?_
          simp (disch := omega) only [n32_of, neg_n32_1, n32_nat, n32_lt, n32_le, n32_eq, n32_add, n32_sub, n32_mul, n32_m1, m1_n32, n32_addm1, m1_lt, lt_m1, m1_le, le_m1, m1_add1, ofNat_n32, u2_self, u2_n, mk_I, mk_T, ]
          exact eskip (fun q => htk q.2)
      · with_reducible refine ok_ip (by first | assumption | omega | (simp (disch := omega) only [n32_of, neg_n32_1, n32_nat, n32_lt, n32_le, n32_eq, n32_add, n32_sub, n32_mul, n32_m1, m1_n32, n32_addm1, m1_lt, lt_m1, m1_le, le_m1, m1_add1, ofNat_n32, u2_self, u2_n, mk_I, mk_T, ne_eq, not_true_eq_false, not_false_eq_true, e5]; first | done | omega)) ?_
        simp (disch := omega) only [n32_of, neg_n32_1, n32_nat, n32_lt, n32_le, n32_eq, n32_add, n32_sub, n32_mul, n32_m1, m1_n32, n32_addm1, m1_lt, lt_m1, m1_le, le_m1, m1_add1, ofNat_n32, u2_self, u2_n, mk_I, mk_T, ]
        exact eskip (fun q => hbl q.1)
theorem cfr_nodup (p : Nat → Bool) : ∀ k l, (cfr p k l).Nodup
  | 0, l => List.nodup_nil
  | k + 1, l => by
    rw [cfr]
    split
    · refine List.nodup_cons.mpr ⟨fun h => ?_, cfr_nodup p k (l + 1)⟩
      have := cfr_mem h
      omega
    · exact cfr_nodup p k (l + 1)
theorem x_loadF {f0 : Nat → Nat → Int32} (hN : 1000 ≤ N) (hD : HOK D) (hd : dOK D dr) (hY : yOK Y) (hv : v < yq Y) (hF : FX f0 D Y dr v) : Ok (F_X3_fill N (223 + 2 * v) (n32 v) 101 (mk σ f0)) (fun _ σ' => ∃ f', σ' = mk σ f' ∧ eqF v f0 f' ∧ ldX f' D v (slv D Y dr v) ∧ ∀ l, l < hn D → f' (105 + l) 7 = oI (on D Y dr (v + 1) l)) := by
  have n24 := hD.1
  have q6 := hY.1
  have hyv := hY.2 v hv
  have hlen : (cdl D Y dr v).length ≤ 24 := by
    have := cfr_len (pv1 D Y dr v) (hn D) 0
    unfold cdl
    omega
  have hmem : ∀ l ∈ cdl D Y dr v, l < hn D := fun l hl => by
    have := cfr_mem hl
    omega
  have hbx : ∀ c ∈ (cdl D Y dr v).map (lo D 3), 1 ≤ c ∧ c ≤ 20 := by
    intro c hc
    obtain ⟨l, hl, rfl⟩ := List.mem_map.mp hc
    have := hD.2.2.1 l (hmem l hl)
    omega
  have e1 := hF.2.1.2.1
  unfold F_X3_fill
  rw [s_min, oB_s]
  have emin : (if (60 : Int32) < aI (mk σ f0) (223 + 2 * v) 1 then 60 else aI (mk σ f0) (223 + 2 * v) 1) = n32 (yr Y v) := by
    rw [mk_I, e1, if_neg (by first | assumption | omega | (simp (disch := omega) only [n32_of, neg_n32_1, n32_nat, n32_lt, n32_le, n32_eq, n32_add, n32_sub, n32_mul, n32_m1, m1_n32, n32_addm1, m1_lt, lt_m1, m1_le, le_m1, m1_add1, ofNat_n32, u2_self, u2_n, mk_I, mk_T, ne_eq, not_true_eq_false, not_false_eq_true, ]; first | done | omega))]
  rw [emin]
  refine ok_bind (x_gather hN hD hd hY hv hF) (fun _ σ1 hq => ?_)
  obtain ⟨f1, rfl, he1, hc1, hr1, hr2⟩ := hq
  have hx := x_count (σ := σ) (cs := (cdl D Y dr v).map (lo D 3)) (r := yr Y v) (f0 := f1) hN (by rw [List.length_map]; exact hlen) (by omega) hbx (by rw [List.length_map]; exact hc1) hr2
  refine ok_bind hx (fun _ σ2 hq => ?_)
  obtain ⟨f2, rfl, he2, hrow⟩ := hq
  unfold F_X4_empty
  refine ok_oB ?_
  repeat (first | with_reducible refine ok_W ?_ | with_reducible refine ok_cO (by first | assumption | omega | (simp (disch := omega) only [n32_of, neg_n32_1, n32_nat, n32_lt, n32_le, n32_eq, n32_add, n32_sub, n32_mul, n32_m1, m1_n32, n32_addm1, m1_lt, lt_m1, m1_le, le_m1, m1_add1, ofNat_n32, u2_self, u2_n, mk_I, mk_T, ne_eq, not_true_eq_false, not_false_eq_true, ]; first | done | omega)) ?_ | with_reducible refine ok_ip (by first | assumption | omega | (simp (disch := omega) only [n32_of, neg_n32_1, n32_nat, n32_lt, n32_le, n32_eq, n32_add, n32_sub, n32_mul, n32_m1, m1_n32, n32_addm1, m1_lt, lt_m1, m1_le, le_m1, m1_add1, ofNat_n32, u2_self, u2_n, mk_I, mk_T, ne_eq, not_true_eq_false, not_false_eq_true, ]; first | done | omega)) ?_ | with_reducible refine ok_in (by first | assumption | omega | (simp (disch := omega) only [n32_of, neg_n32_1, n32_nat, n32_lt, n32_le, n32_eq, n32_add, n32_sub, n32_mul, n32_m1, m1_n32, n32_addm1, m1_lt, lt_m1, m1_le, le_m1, m1_add1, ofNat_n32, u2_self, u2_n, mk_I, mk_T, ne_eq, not_true_eq_false, not_false_eq_true, ]; first | done | omega)) ?_)
  refine ok_some ?_
  have he3 : ∀ a k, ¬ (a = 223 + 2 * v) → u2 (u2 f2 (223 + 2 * v) 3 0) (223 + 2 * v) 5 0 a k = f2 a k := fun a k ha => by rw [u2_n (by omega), u2_n (by omega)]
  have hrow0 : rowF (u2 (u2 f2 (223 + 2 * v) 3 0) (223 + 2 * v) 5 0) ((cdl D Y dr v).map (lo D 3)) (yr Y v) 0 := fun s hs => (he3 _ _ (by omega)).trans (hrow 0 (by omega) s hs)
  refine ok_bind (x_most (σ := σ) hN (by omega) hrow0) (fun y σ3 hq => ?_)
  obtain ⟨rfl, rfl⟩ := hq
  have hm := mst_le ((cdl D Y dr v).map (lo D 3)) (yr Y v)
  have heF : eqF v f0 (u2 (u2 f2 (223 + 2 * v) 3 0) (223 + 2 * v) 5 0) := by
    intro a k p1 p2 p3 p4
    rw [u2_n (by omega), u2_n (by omega), he2 _ _ (by omega)]
    exact he1 _ _ (by omega)
  have hlen' : (cdl D Y dr v).length = ((cdl D Y dr v).map (lo D 3)).length := by rw [List.length_map]
  have key := x_take (N := N) (σ := σ) (f0 := u2 (u2 f2 (223 + 2 * v) 3 0) (223 + 2 * v) 5 0) (ls := cdl D Y dr v) (r := yr Y v) hD (show v < 6 by omega) (by omega) hlen hmem (cfr_nodup _ _ _) (by rw [he3 _ _ (by omega), he2 _ _ (by omega)]; exact hc1) (rowL_cg hr1 (fun k => by rw [he3 _ _ (by omega), he2 _ _ (by omega)])) (rowL_cg hr2 (fun k => by rw [he3 _ _ (by omega), he2 _ _ (by omega)])) (fun i hi s hs => by rw [he3 _ _ (by omega)]; exact hrow i (by omega) s hs) (on D Y dr v) (fun l hl => by rw [he3 _ _ (by omega), he2 _ _ (by omega), he1 _ _ (by omega)]; exact (hF.2.2 l hl).2.2) N 0 (mst ((cdl D Y dr v).map (lo D 3)) (yr Y v)) [] (u2 (u2 f2 (223 + 2 * v) 3 0) (223 + 2 * v) 5 0) (by omega) (by omega) (by omega) (Nat.le_refl _) eqF_rfl (fun _ _ _ _ => rfl) ⟨by simp (disch := omega) only [n32_of, neg_n32_1, n32_nat, n32_lt, n32_le, n32_eq, n32_add, n32_sub, n32_mul, n32_m1, m1_n32, n32_addm1, m1_lt, lt_m1, m1_le, le_m1, m1_add1, ofNat_n32, u2_self, u2_n, mk_I, mk_T, ]; rfl, by simp (disch := omega) only [n32_of, neg_n32_1, n32_nat, n32_lt, n32_le, n32_eq, n32_add, n32_sub, n32_mul, n32_m1, m1_n32, n32_addm1, m1_lt, lt_m1, m1_le, le_m1, m1_add1, ofNat_n32, u2_self, u2_n, mk_I, mk_T, ]; rfl, fun j x hx => by cases hx⟩ (fun l hl => by
    rw [if_neg (by simp), he3 _ _ (by omega), he2 _ _ (by omega), he1 _ _ (by omega)]
    exact (hF.2.2 l hl).2.2)
  refine ok_mono key (fun _ σ' hq => ?_)
  obtain ⟨f', rfl, z1, z2, z3⟩ := hq
  have esel : selX (lo D 3) ((cdl D Y dr v).drop 0) (mst ((cdl D Y dr v).map (lo D 3)) (yr Y v)) = slv D Y dr v := by
    rw [List.drop_zero]
    exact sel_eq (lo D 3) (cdl D Y dr v) (by omega) (fun l hl => by have := hD.2.2.1 l (hmem l hl); omega) (yr Y v)
  rw [List.nil_append, esel] at z2 z3
  refine ⟨f', rfl, eqF_tr heF z1, z2, fun l hl => ?_⟩
  rw [z3 l hl, on_s]
  split <;> rfl
end XFILL2
