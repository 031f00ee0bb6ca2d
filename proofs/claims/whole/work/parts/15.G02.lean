/-- lorries: how many, towns, room, when they leave -/
abbrev LY : Type := Nat × (Nat → Nat) × (Nat → Nat) × (Nat → Nat)
abbrev yq (Y : LY) : Nat := Y.1
abbrev yt (Y : LY) : Nat → Nat := Y.2.1
abbrev yr (Y : LY) : Nat → Nat := Y.2.2.1
abbrev yl (Y : LY) : Nat → Nat := Y.2.2.2
def toT (D : HD) (t : Nat) (o : Option Nat) : Bool := match o with
  | none => false
  | some b => decide (tw D b = t)
theorem toT_n (D : HD) (t : Nat) : toT D t none = false := rfl
theorem toT_s (D : HD) (t b : Nat) : toT D t (some b) = decide (tw D b = t) := rfl
def cand (D : HD) (Y : LY) (dr : Nat → SR) (v l : Nat) : Bool := toT D (yt Y v) (dr l).1 && decide ((dr l).2.2.1 + lo D 3 l ≤ yl Y v)
def on (D : HD) (Y : LY) (dr : Nat → SR) : Nat → Nat → Option Nat
  | 0, _ => none
  | v + 1, l => if l ∈ selR (lo D 3) (cfr (fun x => (on D Y dr v x).isNone && cand D Y dr v x) (hn D) 0) (yr Y v) then some v else on D Y dr v l
def pv1 (D : HD) (Y : LY) (dr : Nat → SR) (v x : Nat) : Bool := (on D Y dr v x).isNone && cand D Y dr v x
def cdl (D : HD) (Y : LY) (dr : Nat → SR) (v : Nat) : List Nat := cfr (pv1 D Y dr v) (hn D) 0
def slv (D : HD) (Y : LY) (dr : Nat → SR) (v : Nat) : List Nat := selR (lo D 3) (cdl D Y dr v) (yr Y v)
theorem on_s (D : HD) (Y : LY) (dr : Nat → SR) (v l : Nat) : on D Y dr (v + 1) l = if l ∈ slv D Y dr v then some v else on D Y dr v l := rfl
theorem cfr_snoc (p : Nat → Bool) : ∀ k l, cfr p (k + 1) l = cfr p k l ++ (if p (l + k) then [l + k] else [])
  | 0, l => by
    rw [cfr, cfr, cfr, List.nil_append, Nat.add_zero]
  | k + 1, l => by
    rw [cfr, cfr_snoc p k (l + 1), cfr]
    rw [show l + 1 + k = l + (k + 1) by omega]
    split <;> rfl
theorem few_le (cs : List Nat) : ∀ s, few cs s ≤ 1000 := by
  induction cs with
  | nil => intro s; rw [few]; split <;> omega
  | cons c cs ih => intro s; rw [few]; have := ih s; omega
def yOK (Y : LY) : Prop := yq Y ≤ 6 ∧ ∀ v, v < yq Y → yt Y v < 4 ∧ 1 ≤ yr Y v ∧ yr Y v ≤ 60 ∧ yl Y v ≤ 99999
def dOK (D : HD) (dr : Nat → SR) : Prop := ∀ l, l < hn D → (∀ b, (dr l).1 = some b → b < hm D) ∧ 1 ≤ (dr l).2.1 ∧ (dr l).2.1 ≤ 999 ∧ (dr l).2.2.1 ≤ 24000 ∧ (dr l).2.2.2 < 3
/-- a list in a row -/
def rowL (f : Nat → Nat → Int32) (a : Nat) (ls : List Nat) : Prop := ∀ j x, ls[j]? = some x → f a j = n32 x
theorem rowL_cg {f f' : Nat → Nat → Int32} {a : Nat} {ls : List Nat} (h : rowL f a ls) (e : ∀ k, f' a k = f a k) : rowL f' a ls := fun j x hx => (e j).trans (h j x hx)
theorem rowL_snoc {f : Nat → Nat → Int32} {a x : Nat} {ls : List Nat} (h : rowL f a ls) : rowL (u2 f a ls.length (n32 x)) a (ls ++ [x]) := by
  intro j y hy
  by_cases hj : j < ls.length
  · rw [List.getElem?_append_left hj] at hy
    rw [u2_n (by omega)]
    exact h j y hy
  · rw [List.getElem?_append_right (by omega)] at hy
    have : j - ls.length = 0 := by
      have := (List.getElem?_eq_some_iff.mp hy).1
      simpa using this
    rw [this] at hy
    cases hy
    rw [show j = ls.length by omega, u2_self]
section XFILL
variable {N v : Nat} {σ : aSt} {D : HD} {Y : LY} {dr : Nat → SR}
/-- what a load of the program reads -/
def FX (f : Nat → Nat → Int32) (D : HD) (Y : LY) (dr : Nat → SR) (v : Nat) : Prop := HX f D ∧ (f (223 + 2 * v) 0 = n32 (yt Y v) ∧ f (223 + 2 * v) 1 = n32 (yr Y v) ∧ f (223 + 2 * v) 2 = n32 (yl Y v)) ∧ ∀ l, l < hn D → f (105 + l) 0 = oI (dr l).1 ∧ f (105 + l) 2 = n32 (dr l).2.2.1 ∧ f (105 + l) 7 = oI (on D Y dr v l)
theorem FX_S {f f' : Nat → Nat → Int32} (hD : HOK D) (hv : v < 6) (h : FX f D Y dr v) (e : eqS (fun a => 193 ≤ a ∧ a ≤ 221) f f') : FX f' D Y dr v := by
  have n24 := hD.1
  obtain ⟨h1, ⟨h2, h3, h4⟩, h5⟩ := h
  refine ⟨HX_S h1 hD e (by omega) (by omega) (fun i hi => by omega) (fun b hb => by omega), ⟨(e _ _ (by omega)).trans h2, (e _ _ (by omega)).trans h3, (e _ _ (by omega)).trans h4⟩, fun l hl => ?_⟩
  have := h5 l hl
  exact ⟨(e _ _ (by omega)).trans this.1, (e _ _ (by omega)).trans this.2.1, (e _ _ (by omega)).trans this.2.2⟩
theorem on_lt (D : HD) (Y : LY) (dr : Nat → SR) : ∀ v l j, on D Y dr v l = some j → j < v
  | 0, l, j, h => by cases h
  | v + 1, l, j, h => by
    rw [on_s] at h
    split at h
    · cases h; exact Nat.lt_succ_self _
    · have := on_lt D Y dr v l j h
      omega
theorem x_soldTo {l t : Nat} {f : Nat → Nat → Int32} (hD : HOK D) (hd : dOK D dr) (hX : HX f D) (hl : l < hn D) (h0 : f (105 + l) 0 = oI (dr l).1) (ht : t < 100) : F_X9_isSoldTo N 101 (n32 t) (n32 l) (mk σ f) = some (bB (toT D t (dr l).1), mk σ f) := by
  have n24 := hD.1
  have m6 := hD.2.1
  have e43 := hX.2.1
  have dl := hd l hl
  unfold F_X9_isSoldTo J_X9_isSoldTo_41 J_X9_isSoldTo_42
  rw [cO_t (by first | assumption | omega | (simp (disch := omega) only [n32_of, neg_n32_1, n32_nat, n32_lt, n32_le, n32_eq, n32_add, n32_sub, n32_mul, n32_m1, m1_n32, n32_addm1, m1_lt, lt_m1, m1_le, le_m1, m1_add1, ofNat_n32, u2_self, u2_n, mk_I, mk_T, ne_eq, not_true_eq_false, not_false_eq_true, ]; first | done | omega))]
  have h0' : aI (mk σ f) (101 + 4 + (n32 l).toNatClampNeg) 0 = oI (dr l).1 := by
    simp (disch := omega) only [n32_of, neg_n32_1, n32_nat, n32_lt, n32_le, n32_eq, n32_add, n32_sub, n32_mul, n32_m1, m1_n32, n32_addm1, m1_lt, lt_m1, m1_le, le_m1, m1_add1, ofNat_n32, u2_self, u2_n, mk_I, mk_T, ]
    exact h0
  rw [h0', s_hasBuyer, oB_s]
  simp only [cO_t nar_b0, cO_t nar_b1]
  cases hb : (dr l).1 with
  | none =>
    rw [if_pos]
    · rfl
    · rw [bI_0]
      intro q
      exact q.1 m1_lt0
  | some b =>
    have hbm := dl.1 b hb
    have htw := (hX.2.2.2.2.1 b hbm).1
    have hdt := (hD.2.2.2.1 b hbm).1
    rw [if_neg, cO_t (by first | assumption | omega | (simp (disch := omega) only [n32_of, neg_n32_1, n32_nat, n32_lt, n32_le, n32_eq, n32_add, n32_sub, n32_mul, n32_m1, m1_n32, n32_addm1, m1_lt, lt_m1, m1_le, le_m1, m1_add1, ofNat_n32, u2_self, u2_n, mk_I, mk_T, ne_eq, not_true_eq_false, not_false_eq_true, oI_s]; first | done | omega))]
    · by_cases hc : tw D b = t
      · rw [if_neg, toT_s, decide_eq_true hc]
        · rfl
        · first | assumption | omega | (simp (disch := omega) only [n32_of, neg_n32_1, n32_nat, n32_lt, n32_le, n32_eq, n32_add, n32_sub, n32_mul, n32_m1, m1_n32, n32_addm1, m1_lt, lt_m1, m1_le, le_m1, m1_add1, ofNat_n32, u2_self, u2_n, mk_I, mk_T, ne_eq, not_true_eq_false, not_false_eq_true, oI_s, htw]; first | done | omega)
      · rw [if_pos, toT_s, decide_eq_false hc]
        · rfl
        · first | assumption | omega | (simp (disch := omega) only [n32_of, neg_n32_1, n32_nat, n32_lt, n32_le, n32_eq, n32_add, n32_sub, n32_mul, n32_m1, m1_n32, n32_addm1, m1_lt, lt_m1, m1_le, le_m1, m1_add1, ofNat_n32, u2_self, u2_n, mk_I, mk_T, ne_eq, not_true_eq_false, not_false_eq_true, oI_s, htw]; first | done | omega)
    · rw [bI_0]
      intro q
      apply q
      show ¬ n32 b < 0 ∧ n32 b < f 11 3
      rw [e43]
      constructor
      · first | assumption | omega | (simp (disch := omega) only [n32_of, neg_n32_1, n32_nat, n32_lt, n32_le, n32_eq, n32_add, n32_sub, n32_mul, n32_m1, m1_n32, n32_addm1, m1_lt, lt_m1, m1_le, le_m1, m1_add1, ofNat_n32, u2_self, u2_n, mk_I, mk_T, ne_eq, not_true_eq_false, not_false_eq_true, ]; first | done | omega)
      · first | assumption | omega | (simp (disch := omega) only [n32_of, neg_n32_1, n32_nat, n32_lt, n32_le, n32_eq, n32_add, n32_sub, n32_mul, n32_m1, m1_n32, n32_addm1, m1_lt, lt_m1, m1_le, le_m1, m1_add1, ofNat_n32, u2_self, u2_n, mk_I, mk_T, ne_eq, not_true_eq_false, not_false_eq_true, ]; first | done | omega)
theorem x_gather {f0 : Nat → Nat → Int32} (hN : 1000 ≤ N) (hD : HOK D) (hd : dOK D dr) (hY : yOK Y) (hv : v < yq Y) (hF : FX f0 D Y dr v) : Ok (F_X3_gather N (223 + 2 * v) 101 (mk σ f0)) (fun _ σ' => ∃ f, σ' = mk σ f ∧ eqS (fun a => 193 ≤ a ∧ a ≤ 195) f0 f ∧ f 193 2 = n32 (cdl D Y dr v).length ∧ rowL f 194 (cdl D Y dr v) ∧ rowL f 195 ((cdl D Y dr v).map (lo D 3))) := by
  have n24 := hD.1
  have q6 := hY.1
  have hyv := hY.2 v hv
  have loop : ∀ (n i : Nat) (f : Nat → Nat → Int32), hn D < n + i → i ≤ hn D → eqS (fun a => 193 ≤ a ∧ a ≤ 195) f0 f → f 193 2 = n32 (cfr (pv1 D Y dr v) i 0).length → rowL f 194 (cfr (pv1 D Y dr v) i 0) → rowL f 195 ((cfr (pv1 D Y dr v) i 0).map (lo D 3)) → Ok (H_X3_gather_8 N n (223 + 2 * v) 101 (n32 i) (mk σ f)) (fun _ σ' => ∃ f, σ' = mk σ f ∧ eqS (fun a => 193 ≤ a ∧ a ≤ 195) f0 f ∧ f 193 2 = n32 (cdl D Y dr v).length ∧ rowL f 194 (cdl D Y dr v) ∧ rowL f 195 ((cdl D Y dr v).map (lo D 3))) := by
    intro n
    induction n with
    | zero => intro i f h1 h2; omega
    | succ n ih =>
      intro i f h1 h2 he hc hr1 hr2
      have hFf := FX_S hD (by omega) hF (eqS_mono he (fun a ha => by omega))
      obtain ⟨x1, ⟨x2, x3, x4⟩, x5⟩ := hFf
      have e11 := x1.1
      rw [H_X3_gather_8]
      unfold J_X3_gather_64 J_X3_gather_65 J_X3_gather_119
      by_cases hi : hn D ≤ i
      · with_reducible refine ok_ip (by first | assumption | omega | (simp (disch := omega) only [n32_of, neg_n32_1, n32_nat, n32_lt, n32_le, n32_eq, n32_add, n32_sub, n32_mul, n32_m1, m1_n32, n32_addm1, m1_lt, lt_m1, m1_le, le_m1, m1_add1, ofNat_n32, u2_self, u2_n, mk_I, mk_T, ne_eq, not_true_eq_false, not_false_eq_true, e11]; first | done | omega)) ?_
        rw [show i = hn D by omega] at hc hr1 hr2
        exact ok_some ⟨f, rfl, he, hc, hr1, hr2⟩
      · with_reducible refine ok_in (by first | assumption | omega | (simp (disch := omega) only [n32_of, neg_n32_1, n32_nat, n32_lt, n32_le, n32_eq, n32_add, n32_sub, n32_mul, n32_m1, m1_n32, n32_addm1, m1_lt, lt_m1, m1_le, le_m1, m1_add1, ofNat_n32, u2_self, u2_n, mk_I, mk_T, ne_eq, not_true_eq_false, not_false_eq_true, e11]; first | done | omega)) ?_
        have hi' : i < hn D := by omega
        obtain ⟨y0, y2, y7⟩ := x5 i hi'
        have ebx := x1.2.2.1 3 i (by omega) hi'
        have di := hD.2.2.1 i hi'
        have ddr := hd i hi'
        have hlen := cfr_len (pv1 D Y dr v) i 0
        with_reducible refine ok_cO (by first | assumption | omega | (simp (disch := omega) only [n32_of, neg_n32_1, n32_nat, n32_lt, n32_le, n32_eq, n32_add, n32_sub, n32_mul, n32_m1, m1_n32, n32_addm1, m1_lt, lt_m1, m1_le, le_m1, m1_add1, ofNat_n32, u2_self, u2_n, mk_I, mk_T, ne_eq, not_true_eq_false, not_false_eq_true, ]; first | done | omega)) ?_
        with_reducible refine ok_cO (by first | assumption | omega | (simp (disch := omega) only [n32_of, neg_n32_1, n32_nat, n32_lt, n32_le, n32_eq, n32_add, n32_sub, n32_mul, n32_m1, m1_n32, n32_addm1, m1_lt, lt_m1, m1_le, le_m1, m1_add1, ofNat_n32, u2_self, u2_n, mk_I, mk_T, ne_eq, not_true_eq_false, not_false_eq_true, ]; first | done | omega)) ?_
        have hsn := cfr_snoc (pv1 D Y dr v) i 0
        rw [Nat.zero_add] at hsn
        have skip : pv1 D Y dr v i = false → Ok (H_X3_gather_8 N n (223 + 2 * v) 101 (n32 (i + 1)) (mk σ f)) (fun _ σ' => ∃ f, σ' = mk σ f ∧ eqS (fun a => 193 ≤ a ∧ a ≤ 195) f0 f ∧ f 193 2 = n32 (cdl D Y dr v).length ∧ rowL f 194 (cdl D Y dr v) ∧ rowL f 195 ((cdl D Y dr v).map (lo D 3))) := by
          intro hp
          rw [hp] at hsn
          have hsn' : cfr (pv1 D Y dr v) (i + 1) 0 = cfr (pv1 D Y dr v) i 0 := by simpa using hsn
          exact ih (i + 1) f (by omega) (by omega) he (by rw [hsn']; exact hc) (by rw [hsn']; exact hr1) (by rw [hsn']; exact hr2)
        have h7 : aI (mk σ f) (101 + 4 + (n32 i).toNatClampNeg) 7 = oI (on D Y dr v i) := by
          simp (disch := omega) only [n32_of, neg_n32_1, n32_nat, n32_lt, n32_le, n32_eq, n32_add, n32_sub, n32_mul, n32_m1, m1_n32, n32_addm1, m1_lt, lt_m1, m1_le, le_m1, m1_add1, ofNat_n32, u2_self, u2_n, mk_I, mk_T, ]
          exact y7
        rw [h7]
        cases hon : on D Y dr v i with
        | some j =>
          have hj := on_lt D Y dr v i j hon
          with_reducible refine ok_ip ?_ ?_
          · exact oI_ne (by omega)
          with_reducible refine ok_ip (by first | assumption | omega | (simp (disch := omega) only [n32_of, neg_n32_1, n32_nat, n32_lt, n32_le, n32_eq, n32_add, n32_sub, n32_mul, n32_m1, m1_n32, n32_addm1, m1_lt, lt_m1, m1_le, le_m1, m1_add1, ofNat_n32, u2_self, u2_n, mk_I, mk_T, ne_eq, not_true_eq_false, not_false_eq_true, ]; first | done | omega)) ?_
          simp (disch := omega) only [n32_of, neg_n32_1, n32_nat, n32_lt, n32_le, n32_eq, n32_add, n32_sub, n32_mul, n32_m1, m1_n32, n32_addm1, m1_lt, lt_m1, m1_le, le_m1, m1_add1, ofNat_n32, u2_self, u2_n, mk_I, mk_T, ]
          refine skip ?_
          unfold pv1
          rw [hon]
          rfl
        | none =>
          with_reducible refine ok_in ?_ ?_
          · exact fun q => q rfl
          simp (disch := omega) only [n32_of, neg_n32_1, n32_nat, n32_lt, n32_le, n32_eq, n32_add, n32_sub, n32_mul, n32_m1, m1_n32, n32_addm1, m1_lt, lt_m1, m1_le, le_m1, m1_add1, ofNat_n32, u2_self, u2_n, mk_I, mk_T, x2]
          rw [x_soldTo hD hd x1 hi' y0 (by omega), oB_s]
          cases hb : (dr i).1 with
          | none =>
            rw [toT_n]
            with_reducible refine ok_ip (by first | assumption | omega | (simp (disch := omega) only [n32_of, neg_n32_1, n32_nat, n32_lt, n32_le, n32_eq, n32_add, n32_sub, n32_mul, n32_m1, m1_n32, n32_addm1, m1_lt, lt_m1, m1_le, le_m1, m1_add1, ofNat_n32, u2_self, u2_n, mk_I, mk_T, ne_eq, not_true_eq_false, not_false_eq_true, bB_f]; first | done | omega)) ?_
            with_reducible refine ok_ip (by first | assumption | omega | (simp (disch := omega) only [n32_of, neg_n32_1, n32_nat, n32_lt, n32_le, n32_eq, n32_add, n32_sub, n32_mul, n32_m1, m1_n32, n32_addm1, m1_lt, lt_m1, m1_le, le_m1, m1_add1, ofNat_n32, u2_self, u2_n, mk_I, mk_T, ne_eq, not_true_eq_false, not_false_eq_true, ]; first | done | omega)) ?_
            refine skip ?_
            unfold pv1 cand
            rw [hb, toT_n]
            simp
          | some b =>
            by_cases htb : tw D b = yt Y v
            · rw [toT_s, decide_eq_true htb]
              with_reducible refine ok_in ?_ ?_
              · decide
              with_reducible refine ok_in (by first | assumption | omega | (simp (disch := omega) only [n32_of, neg_n32_1, n32_nat, n32_lt, n32_le, n32_eq, n32_add, n32_sub, n32_mul, n32_m1, m1_n32, n32_addm1, m1_lt, lt_m1, m1_le, le_m1, m1_add1, ofNat_n32, u2_self, u2_n, mk_I, mk_T, ne_eq, not_true_eq_false, not_false_eq_true, ]; first | done | omega)) ?_
              by_cases htime : (dr i).2.2.1 + lo D 3 i ≤ yl Y v
              · have hp : pv1 D Y dr v i = true := by
                  unfold pv1 cand
                  rw [hb, hon, toT_s, decide_eq_true htb, decide_eq_true htime]
                  rfl
                rw [hp] at hsn
                have hsn' : cfr (pv1 D Y dr v) (i + 1) 0 = cfr (pv1 D Y dr v) i 0 ++ [i] := by simpa using hsn
                have y2' : f (101 + 4 + i) 2 = n32 (dr i).2.2.1 := y2
                with_reducible refine ok_in (by first | assumption | omega | (simp (disch := omega) only [n32_of, neg_n32_1, n32_nat, n32_lt, n32_le, n32_eq, n32_add, n32_sub, n32_mul, n32_m1, m1_n32, n32_addm1, m1_lt, lt_m1, m1_le, le_m1, m1_add1, ofNat_n32, u2_self, u2_n, mk_I, mk_T, ne_eq, not_true_eq_false, not_false_eq_true, x4, y2', ebx]; first | done | omega)) ?_
                repeat (first | with_reducible refine ok_W ?_ | with_reducible refine ok_cO (by first | assumption | omega | (simp (disch := omega) only [n32_of, neg_n32_1, n32_nat, n32_lt, n32_le, n32_eq, n32_add, n32_sub, n32_mul, n32_m1, m1_n32, n32_addm1, m1_lt, lt_m1, m1_le, le_m1, m1_add1, ofNat_n32, u2_self, u2_n, mk_I, mk_T, ne_eq, not_true_eq_false, not_false_eq_true, hc]; first | done | omega)) ?_ | with_reducible refine ok_ip (by first | assumption | omega | (simp (disch := omega) only [n32_of, neg_n32_1, n32_nat, n32_lt, n32_le, n32_eq, n32_add, n32_sub, n32_mul, n32_m1, m1_n32, n32_addm1, m1_lt, lt_m1, m1_le, le_m1, m1_add1, ofNat_n32, u2_self, u2_n, mk_I, mk_T, ne_eq, not_true_eq_false, not_false_eq_true, hc]; first | done | omega)) ?_ | with_reducible refine ok_in (by first | assumption | omega | (simp (disch := omega) only [n32_of, neg_n32_1, n32_nat, n32_lt, n32_le, n32_eq, n32_add, n32_sub, n32_mul, n32_m1, m1_n32, n32_addm1, m1_lt, lt_m1, m1_le, le_m1, m1_add1, ofNat_n32, u2_self, u2_n, mk_I, mk_T, ne_eq, not_true_eq_false, not_false_eq_true, hc]; first | done | omega)) ?_)
                simp (disch := omega) only [n32_of, neg_n32_1, n32_nat, n32_lt, n32_le, n32_eq, n32_add, n32_sub, n32_mul, n32_m1, m1_n32, n32_addm1, m1_lt, lt_m1, m1_le, le_m1, m1_add1, ofNat_n32, u2_self, u2_n, mk_I, mk_T, hc, ebx]
                refine ih (i + 1) _ (by omega) (by omega) (eqS_u2 (eqS_u2 (eqS_u2 he (by omega)) (by omega)) (by omega)) ?_ ?_ ?_
                · rw [hsn', List.length_append]
                  simp (disch := omega) only [n32_of, neg_n32_1, n32_nat, n32_lt, n32_le, n32_eq, n32_add, n32_sub, n32_mul, n32_m1, m1_n32, n32_addm1, m1_lt, lt_m1, m1_le, le_m1, m1_add1, ofNat_n32, u2_self, u2_n, mk_I, mk_T, ]
                  rfl
                · rw [hsn']
                  refine rowL_cg (rowL_snoc (x := i) hr1) (fun k => ?_)
                  rw [u2_n (by omega), u2_n (by omega)]
                · rw [hsn', List.map_append, List.map_singleton]
                  have := rowL_snoc (x := lo D 3 i) hr2
                  rw [List.length_map] at this
                  refine rowL_cg this (fun k => ?_)
                  rw [u2_n (by omega)]
                  by_cases ek : k = (cfr (pv1 D Y dr v) i 0).length
                  · rw [ek, u2_self, u2_self]
                  · rw [u2_n (by omega), u2_n (by omega), u2_n (by omega)]
              · have y2' : f (101 + 4 + i) 2 = n32 (dr i).2.2.1 := y2
                with_reducible refine ok_ip (by first | assumption | omega | (simp (disch := omega) only [n32_of, neg_n32_1, n32_nat, n32_lt, n32_le, n32_eq, n32_add, n32_sub, n32_mul, n32_m1, m1_n32, n32_addm1, m1_lt, lt_m1, m1_le, le_m1, m1_add1, ofNat_n32, u2_self, u2_n, mk_I, mk_T, ne_eq, not_true_eq_false, not_false_eq_true, x4, y2', ebx]; first | done | omega)) ?_
                refine skip ?_
                unfold pv1 cand
                rw [hb, decide_eq_false htime]
                simp
            · rw [toT_s, decide_eq_false htb]
              with_reducible refine ok_ip (by first | assumption | omega | (simp (disch := omega) only [n32_of, neg_n32_1, n32_nat, n32_lt, n32_le, n32_eq, n32_add, n32_sub, n32_mul, n32_m1, m1_n32, n32_addm1, m1_lt, lt_m1, m1_le, le_m1, m1_add1, ofNat_n32, u2_self, u2_n, mk_I, mk_T, ne_eq, not_true_eq_false, not_false_eq_true, bB_f]; first | done | omega)) ?_
              with_reducible refine ok_ip (by first | assumption | omega | (simp (disch := omega) only [n32_of, neg_n32_1, n32_nat, n32_lt, n32_le, n32_eq, n32_add, n32_sub, n32_mul, n32_m1, m1_n32, n32_addm1, m1_lt, lt_m1, m1_le, le_m1, m1_add1, ofNat_n32, u2_self, u2_n, mk_I, mk_T, ne_eq, not_true_eq_false, not_false_eq_true, ]; first | done | omega)) ?_
              refine skip ?_
              unfold pv1 cand
              rw [hb, toT_s, decide_eq_false htb]
              simp
  unfold F_X3_gather
  repeat (first | with_reducible refine ok_W ?_ | with_reducible refine ok_cO (by first | assumption | omega | (simp (disch := omega) only [n32_of, neg_n32_1, n32_nat, n32_lt, n32_le, n32_eq, n32_add, n32_sub, n32_mul, n32_m1, m1_n32, n32_addm1, m1_lt, lt_m1, m1_le, le_m1, m1_add1, ofNat_n32, u2_self, u2_n, mk_I, mk_T, ne_eq, not_true_eq_false, not_false_eq_true, ]; first | done | omega)) ?_ | with_reducible refine ok_ip (by first | assumption | omega | (simp (disch := omega) only [n32_of, neg_n32_1, n32_nat, n32_lt, n32_le, n32_eq, n32_add, n32_sub, n32_mul, n32_m1, m1_n32, n32_addm1, m1_lt, lt_m1, m1_le, le_m1, m1_add1, ofNat_n32, u2_self, u2_n, mk_I, mk_T, ne_eq, not_true_eq_false, not_false_eq_true, ]; first | done | omega)) ?_ | with_reducible refine ok_in (by first | assumption | omega | (simp (disch := omega) only [n32_of, neg_n32_1, n32_nat, n32_lt, n32_le, n32_eq, n32_add, n32_sub, n32_mul, n32_m1, m1_n32, n32_addm1, m1_lt, lt_m1, m1_le, le_m1, m1_add1, ofNat_n32, u2_self, u2_n, mk_I, mk_T, ne_eq, not_true_eq_false, not_false_eq_true, ]; first | done | omega)) ?_)
  refine loop N 0 _ (by omega) (by omega) (eqS_u2 eqS_rfl (by omega)) ?_ ?_ ?_
  · simp (disch := omega) only [n32_of, neg_n32_1, n32_nat, n32_lt, n32_le, n32_eq, n32_add, n32_sub, n32_mul, n32_m1, m1_n32, n32_addm1, m1_lt, lt_m1, m1_le, le_m1, m1_add1, ofNat_n32, u2_self, u2_n, mk_I, mk_T, ]
    rfl
  · intro j x hx
    cases hx
  · intro j x hx
    cases hx
end XFILL
