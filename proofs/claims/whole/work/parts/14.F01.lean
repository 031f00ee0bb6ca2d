/-! ===== the sale: what stands at a second ===== -/
def fu {α : Type} (f : Nat → α) (i : Nat) (x : α) : Nat → α := fun k => if k = i then x else f k
theorem fu_at {α : Type} {f : Nat → α} {i : Nat} {x : α} : fu f i x i = x := if_pos rfl
theorem fu_ne {α : Type} {f : Nat → α} {i k : Nat} {x : α} (h : k ≠ i) : fu f i x k = f k := if_neg h
def oI (o : Option Nat) : Int32 := match o with
  | none => m1
  | some i => n32 i
/-- how a lot went: buyer, price, second, clock -/
abbrev SR : Type := Option Nat × Nat × Nat × Nat
/-- second, next lot, lots gone, lots on clocks, prices on clocks, boxes of kinds, spent, lots of buyers, how lots went, who stopped -/
abbrev SG : Type := Nat × Nat × Nat × (Nat → Option Nat) × (Nat → Nat) × (Nat → Nat → Nat) × (Nat → Nat) × (Nat → Nat) × (Nat → Option SR) × (Nat → Bool)
abbrev gsec (G : SG) : Nat := G.1
abbrev gnx (G : SG) : Nat := G.2.1
abbrev ggo (G : SG) : Nat := G.2.2.1
abbrev gcl (G : SG) : Nat → Option Nat := G.2.2.2.1
abbrev gcp (G : SG) : Nat → Nat := G.2.2.2.2.1
abbrev gha (G : SG) : Nat → Nat → Nat := G.2.2.2.2.2.1
abbrev gsp (G : SG) : Nat → Nat := G.2.2.2.2.2.2.1
abbrev gnl (G : SG) : Nat → Nat := G.2.2.2.2.2.2.2.1
abbrev gre (G : SG) : Nat → Option SR := G.2.2.2.2.2.2.2.2.1
abbrev gst (G : SG) : Nat → Bool := G.2.2.2.2.2.2.2.2.2
/-- the hall, the buyers' texts, starts, leasts, who is out -/
abbrev SP : Type := HD × (Nat → List Ru) × (Nat → Nat) × (Nat → Nat) × Option Nat
abbrev kD (K : SP) : HD := K.1
abbrev kT (K : SP) : Nat → List Ru := K.2.1
abbrev kS (K : SP) : Nat → Nat := K.2.2.1
abbrev kL (K : SP) : Nat → Nat := K.2.2.2.1
abbrev kO (K : SP) : Option Nat := K.2.2.2.2
def bst (lim : Nat → Int32) (ok : Nat → Bool) (p : Int32) : Nat → Option Nat
  | 0 => none
  | b + 1 => match bst lim ok p b with
    | none => if ok b = true ∧ ¬ lim b < p then some b else none
    | some c => if ok b = true ∧ ¬ lim b < p ∧ lim c < lim b then some b else some c
theorem bst_some {lim : Nat → Int32} {ok : Nat → Bool} {p : Int32} : ∀ {m b : Nat}, bst lim ok p m = some b → b < m ∧ ok b = true ∧ ¬ lim b < p := by
  intro m
  induction m with
  | zero => intro b h; cases h
  | succ m ih =>
    intro b h
    rw [bst] at h
    cases hb : bst lim ok p m with
    | none =>
      rw [hb] at h
      by_cases hc : ok m = true ∧ ¬ lim m < p
      · simp only [if_pos hc] at h
        cases h
        exact ⟨Nat.lt_succ_self _, hc⟩
      · simp only [if_neg hc] at h
        cases h
    | some c =>
      rw [hb] at h
      by_cases hc : ok m = true ∧ ¬ lim m < p ∧ lim c < lim m
      · simp only [if_pos hc] at h
        cases h
        exact ⟨Nat.lt_succ_self _, hc.1, hc.2.1⟩
      · simp only [if_neg hc] at h
        cases h
        have := ih hb
        exact ⟨by omega, this.2⟩
theorem bst_none {lim : Nat → Int32} {ok : Nat → Bool} {p : Int32} : ∀ {m : Nat}, bst lim ok p m = none → ∀ b, b < m → ok b = true → lim b < p := by
  intro m
  induction m with
  | zero => intro _ b hb; omega
  | succ m ih =>
    intro h b hb hok
    rw [bst] at h
    cases hbm : bst lim ok p m with
    | none =>
      rw [hbm] at h
      by_cases hc : ok m = true ∧ ¬ lim m < p
      · simp only [if_pos hc] at h
        cases h
      · by_cases e : b = m
        · subst e
          exact Classical.byContradiction (fun hn => hc ⟨hok, hn⟩)
        · exact ih hbm b (by omega) hok
    | some c =>
      rw [hbm] at h
      simp only at h
      split at h <;> cases h
theorem bst_no {lim : Nat → Int32} {ok : Nat → Bool} {p : Int32} : ∀ {m : Nat}, (∀ b, b < m → ok b = true → lim b < p) → bst lim ok p m = none := by
  intro m h
  cases hb : bst lim ok p m with
  | none => rfl
  | some c =>
    have := bst_some hb
    exact absurd (h c this.1 this.2.1) this.2.2
theorem bst_cg {lim lim' : Nat → Int32} {ok ok' : Nat → Bool} {p : Int32} : ∀ {m : Nat}, (∀ b, b < m → (ok b = true ∧ ¬ lim b < p ↔ ok' b = true ∧ ¬ lim' b < p)) → (∀ b, b < m → ok b = true → ¬ lim b < p → lim b = lim' b) → bst lim ok p m = bst lim' ok' p m := by
  intro m
  induction m with
  | zero => intros; rfl
  | succ m ih =>
    intro h1 h2
    rw [bst, bst, ih (fun b hb => h1 b (by omega)) (fun b hb => h2 b (by omega))]
    cases hb : bst lim' ok' p m with
    | none =>
      by_cases hc : ok m = true ∧ ¬ lim m < p
      · have hc' := (h1 m (by omega)).mp hc
        simp only [if_pos hc, if_pos hc']
      · have hc' : ¬ (ok' m = true ∧ ¬ lim' m < p) := fun q => hc ((h1 m (by omega)).mpr q)
        simp only [if_neg hc, if_neg hc']
    | some c =>
      have hcs := bst_some hb
      have hcs' := (h1 c (by omega)).mpr hcs.2
      have ec := h2 c (by omega) hcs'.1 hcs'.2
      by_cases hc : ok m = true ∧ ¬ lim m < p
      · have hc' := (h1 m (by omega)).mp hc
        have em := h2 m (by omega) hc.1 hc.2
        by_cases hl : lim c < lim m
        · have hl' : lim' c < lim' m := by rw [← ec, ← em]; exact hl
          simp only [if_pos (show ok m = true ∧ ¬ lim m < p ∧ lim c < lim m from ⟨hc.1, hc.2, hl⟩), if_pos (show ok' m = true ∧ ¬ lim' m < p ∧ lim' c < lim' m from ⟨hc'.1, hc'.2, hl'⟩)]
        · have hl' : ¬ lim' c < lim' m := by rw [← ec, ← em]; exact hl
          simp only [if_neg (show ¬ (ok m = true ∧ ¬ lim m < p ∧ lim c < lim m) from fun q => hl q.2.2), if_neg (show ¬ (ok' m = true ∧ ¬ lim' m < p ∧ lim' c < lim' m) from fun q => hl' q.2.2)]
      · have hc' : ¬ (ok' m = true ∧ ¬ lim' m < p) := fun q => hc ((h1 m (by omega)).mpr q)
        simp only [if_neg (show ¬ (ok m = true ∧ ¬ lim m < p ∧ lim c < lim m) from fun q => hc ⟨q.1, q.2.1⟩), if_neg (show ¬ (ok' m = true ∧ ¬ lim' m < p ∧ lim' c < lim' m) from fun q => hc' ⟨q.1, q.2.1⟩)]
/-- a clock is filled -/
def gFill (K : SP) (c : Nat) (G : SG) : SG := if gcl G c = none ∧ gnx G < hn (kD K) then (gsec G, gnx G + 1, ggo G, fu (gcl G) c (some (gnx G)), fu (gcp G) c (kS K (gnx G)), gha G, gsp G, gnl G, gre G, gst G) else G
def gLim (K : SP) (G : SG) (l b : Nat) : Int32 := limP (kD K) (kT K b) (gha G) (gsp G) b l
def gOk (K : SP) (G : SG) (b : Nat) : Bool := !(gst G b) && !(decide (kO K = some b))
/-- a lot is sold -/
def gSell (K : SP) (c l b : Nat) (G : SG) : SG := (gsec G, gnx G, ggo G + 1, fu (gcl G) c none, gcp G, fu (gha G) b (fu (gha G b) (lo (kD K) 1 l) (gha G b (lo (kD K) 1 l) + lo (kD K) 3 l)), fu (gsp G) b (gsp G b + gcp G c * lo (kD K) 3 l), fu (gnl G) b (gnl G b + 1), fu (gre G) l (some (some b, gcp G c, gsec G, c)), fu (gst G) b true)
def gStop (K : SP) (c : Nat) (G : SG) : SG := match gcl G c with
  | none => G
  | some l => match bst (gLim K G l) (gOk K G) (n32 (gcp G c)) (hm (kD K)) with
    | none => G
    | some b => gSell K c l b G
/-- a clock falls, or its lot is withdrawn -/
def gLow (K : SP) (c : Nat) (G : SG) : SG := match gcl G c with
  | none => G
  | some l => if kL K l < gcp G c then (gsec G, gnx G, ggo G, gcl G, fu (gcp G) c (gcp G c - 1), gha G, gsp G, gnl G, gre G, gst G) else (gsec G, gnx G, ggo G + 1, fu (gcl G) c none, gcp G, gha G, gsp G, gnl G, fu (gre G) l (some (none, kL K l, gsec G, c)), gst G)
def gRest (G : SG) : SG := (gsec G, gnx G, ggo G, gcl G, gcp G, gha G, gsp G, gnl G, gre G, fun _ => false)
def gFall (G : SG) : SG := (gsec G + 1, gnx G, ggo G, gcl G, gcp G, gha G, gsp G, gnl G, gre G, gst G)
def gF3 (K : SP) (G : SG) : SG := gFill K 2 (gFill K 1 (gFill K 0 G))
def gS3 (K : SP) (G : SG) : SG := gStop K 2 (gStop K 1 (gStop K 0 G))
def gL3 (K : SP) (G : SG) : SG := gLow K 2 (gLow K 1 (gLow K 0 G))
/-- a second of the reference -/
def gTick (K : SP) (G : SG) : SG := gFall (gL3 K (gS3 K (gRest (gF3 K G))))
def isB (r : Option SR) (b : Nat) : Bool := match r with
  | some (some b', _) => b' == b
  | _ => false
def cntb (re : Nat → Option SR) (b : Nat) : Nat → Nat
  | 0 => 0
  | l + 1 => cntb re b l + (isB (re l) b).toNat
theorem cntb_cg {re re' : Nat → Option SR} {b : Nat} : ∀ {L : Nat}, (∀ l, l < L → re l = re' l) → cntb re b L = cntb re' b L := by
  intro L
  induction L with
  | zero => intros; rfl
  | succ L ih =>
    intro h
    rw [cntb, cntb, ih (fun l hl => h l (by omega)), h L (by omega)]
theorem cntb_up {re : Nat → Option SR} {b l : Nat} {r : Option SR} (hre : re l = none) : ∀ {L : Nat}, l < L → cntb (fu re l r) b L = cntb re b L + (isB r b).toNat := by
  intro L
  induction L with
  | zero => intro h; omega
  | succ L ih =>
    intro h
    rw [cntb, cntb]
    by_cases e : l = L
    · subst e
      rw [cntb_cg (re' := re) (fun k hk => fu_ne (by omega)), fu_at, hre]
      rfl
    · rw [ih (by omega), fu_ne (fun q => e q.symm)]
      omega
def oc (cl : Nat → Option Nat) : Nat := (cl 0).isSome.toNat + (cl 1).isSome.toNat + (cl 2).isSome.toNat
theorem oc_set {cl : Nat → Option Nat} {c l : Nat} (hc : c < 3) (h : cl c = none) : oc (fu cl c (some l)) = oc cl + 1 := by
  unfold oc
  rcases (show c = 0 ∨ c = 1 ∨ c = 2 by omega) with rfl | rfl | rfl <;> simp [fu, h] <;> omega
theorem oc_clr {cl : Nat → Option Nat} {c l : Nat} (hc : c < 3) (h : cl c = some l) : oc (fu cl c none) + 1 = oc cl := by
  unfold oc
  rcases (show c = 0 ∨ c = 1 ∨ c = 2 by omega) with rfl | rfl | rfl <;> simp [fu, h] <;> omega
def KOK (K : SP) : Prop := HOK (kD K) ∧ ∀ l, l < hn (kD K) → 1 ≤ kL K l ∧ kL K l ≤ kS K l ∧ kS K l ≤ 999
/-- what holds of a sale at every point -/
def GI (K : SP) (G : SG) : Prop := gnx G ≤ hn (kD K) ∧ ggo G + oc (gcl G) = gnx G ∧ (∀ c l, c < 3 → gcl G c = some l → l < gnx G ∧ gre G l = none ∧ kL K l ≤ gcp G c ∧ gcp G c ≤ 999) ∧ (∀ c c' l, c < 3 → c' < 3 → gcl G c = some l → gcl G c' = some l → c = c') ∧ (∀ l, l < gnx G → gre G l ≠ none ∨ ∃ c, c < 3 ∧ gcl G c = some l) ∧ (∀ l, gnx G ≤ l → gre G l = none) ∧ ((∀ b k, gha G b k ≤ 20 * ggo G) ∧ (∀ b, b < hm (kD K) → gsp G b ≤ cr (kD K) b) ∧ (∀ b, hm (kD K) ≤ b → (∀ k, gha G b k = 0) ∧ gsp G b = 0)) ∧ (∀ b, gnl G b = cntb (gre G) b 24) ∧ ∀ l r, gre G l = some r → (∀ b, r.1 = some b → b < hm (kD K)) ∧ 1 ≤ r.2.1 ∧ r.2.1 ≤ 999 ∧ r.2.2.1 ≤ gsec G ∧ r.2.2.2 < 3
theorem gFill_I {K : SP} {G : SG} {c : Nat} (hK : KOK K) (hc : c < 3) (h : GI K G) : GI K (gFill K c G) := by
  unfold gFill
  by_cases hf : gcl G c = none ∧ gnx G < hn (kD K)
  · rw [if_pos hf]
    obtain ⟨h1, h2, h3, h4, h5, h6, h7, h8, h9⟩ := h
    have hk := hK.2 (gnx G) hf.2
    refine ⟨by show gnx G + 1 ≤ _; omega, ?_, ?_, ?_, ?_, fun l hl => h6 l (by have : gnx G + 1 ≤ l := hl; omega), h7, h8, h9⟩
    · show ggo G + oc (fu (gcl G) c (some (gnx G))) = gnx G + 1
      rw [oc_set hc hf.1]
      omega
    · intro c' l hc' hl
      show l < gnx G + 1 ∧ gre G l = none ∧ kL K l ≤ fu (gcp G) c (kS K (gnx G)) c' ∧ fu (gcp G) c (kS K (gnx G)) c' ≤ 999
      by_cases e : c' = c
      · subst e
        have hl' : fu (gcl G) c' (some (gnx G)) c' = some l := hl
        rw [fu_at] at hl' ⊢
        cases hl'
        exact ⟨by omega, h6 _ (Nat.le_refl _), hk.2.1, hk.2.2⟩
      · have hl' : fu (gcl G) c (some (gnx G)) c' = some l := hl
        rw [fu_ne e] at hl' ⊢
        have := h3 c' l hc' hl'
        exact ⟨by omega, this.2⟩
    · intro c1 c2 l hc1 hc2 hl1 hl2
      have hl1' : fu (gcl G) c (some (gnx G)) c1 = some l := hl1
      have hl2' : fu (gcl G) c (some (gnx G)) c2 = some l := hl2
      by_cases e1 : c1 = c
      · by_cases e2 : c2 = c
        · omega
        · subst e1
          rw [fu_at] at hl1'
          rw [fu_ne e2] at hl2'
          cases hl1'
          have := (h3 c2 _ hc2 hl2').1
          omega
      · rw [fu_ne e1] at hl1'
        by_cases e2 : c2 = c
        · subst e2
          rw [fu_at] at hl2'
          cases hl2'
          have := (h3 c1 _ hc1 hl1').1
          omega
        · rw [fu_ne e2] at hl2'
          exact h4 c1 c2 l hc1 hc2 hl1' hl2'
    · intro l hl
      have hl' : l < gnx G + 1 := hl
      show gre G l ≠ none ∨ ∃ c', c' < 3 ∧ fu (gcl G) c (some (gnx G)) c' = some l
      by_cases e : l = gnx G
      · exact Or.inr ⟨c, hc, by rw [fu_at, e]⟩
      · rcases h5 l (by omega) with q | ⟨c', q1, q2⟩
        · exact Or.inl q
        · refine Or.inr ⟨c', q1, ?_⟩
          rw [fu_ne]
          · exact q2
          · intro e'
            rw [e', hf.1] at q2
            cases q2
  · rw [if_neg hf]
    exact h
theorem gset_I {K : SP} {G : SG} {c l : Nat} {r : SR} {ha : Nat → Nat → Nat} {sp nl : Nat → Nat} {st : Nat → Bool} (hK : KOK K) (hc : c < 3) (h : GI K G) (hl : gcl G c = some l) (hr : (∀ b, r.1 = some b → b < hm (kD K)) ∧ 1 ≤ r.2.1 ∧ r.2.1 ≤ 999 ∧ r.2.2.1 ≤ gsec G ∧ r.2.2.2 < 3) (hp : (∀ b k, ha b k ≤ 20 * (ggo G + 1)) ∧ (∀ b, b < hm (kD K) → sp b ≤ cr (kD K) b) ∧ (∀ b, hm (kD K) ≤ b → (∀ k, ha b k = 0) ∧ sp b = 0)) (hnl : ∀ b, nl b = gnl G b + (isB (some r) b).toNat) : GI K (gsec G, gnx G, ggo G + 1, fu (gcl G) c none, gcp G, ha, sp, nl, fu (gre G) l (some r), st) := by
  obtain ⟨h1, h2, h3, h4, h5, h6, h7, h8, h9⟩ := h
  have hlx := h3 c l hc hl
  have n24 := hK.1.1
  refine ⟨h1, ?_, ?_, ?_, ?_, ?_, hp, ?_, ?_⟩
  · show ggo G + 1 + oc (fu (gcl G) c none) = gnx G
    have := oc_clr hc hl
    omega
  · intro c' l' hc' hl'
    have hl2 : fu (gcl G) c none c' = some l' := hl'
    show l' < gnx G ∧ fu (gre G) l (some r) l' = none ∧ _
    by_cases e : c' = c
    · subst e
      rw [fu_at] at hl2
      cases hl2
    · rw [fu_ne e] at hl2
      have := h3 c' l' hc' hl2
      refine ⟨this.1, ?_, this.2.2⟩
      rw [fu_ne]
      · exact this.2.1
      · intro e'
        subst e'
        exact e (h4 c' c l' hc' hc hl2 hl)
  · intro c1 c2 l' hc1 hc2 hl1 hl2
    have hl1' : fu (gcl G) c none c1 = some l' := hl1
    have hl2' : fu (gcl G) c none c2 = some l' := hl2
    have g1 : gcl G c1 = some l' := by
      by_cases e : c1 = c
      · subst e
        rw [fu_at] at hl1'
        cases hl1'
      · rwa [fu_ne e] at hl1'
    have g2 : gcl G c2 = some l' := by
      by_cases e : c2 = c
      · subst e
        rw [fu_at] at hl2'
        cases hl2'
      · rwa [fu_ne e] at hl2'
    exact h4 c1 c2 l' hc1 hc2 g1 g2
  · intro l' hl'
    show fu (gre G) l (some r) l' ≠ none ∨ ∃ c', c' < 3 ∧ fu (gcl G) c none c' = some l'
    by_cases e : l' = l
    · subst e
      left
      rw [fu_at]
      simp
    · rcases h5 l' hl' with q | ⟨c', q1, q2⟩
      · left
        rw [fu_ne e]
        exact q
      · refine Or.inr ⟨c', q1, ?_⟩
        rw [fu_ne]
        · exact q2
        · intro e'
          rw [e', hl] at q2
          cases q2
          exact e rfl
  · intro l' hl'
    show fu (gre G) l (some r) l' = none
    have hl2 : gnx G ≤ l' := hl'
    rw [fu_ne (by omega)]
    exact h6 l' hl'
  · intro b
    show nl b = cntb (fu (gre G) l (some r)) b 24
    rw [cntb_up hlx.2.1 (by omega), hnl, h8]
  · intro l' r' hr'
    have hr2 : fu (gre G) l (some r) l' = some r' := hr'
    by_cases e : l' = l
    · subst e
      rw [fu_at] at hr2
      cases hr2
      exact hr
    · rw [fu_ne e] at hr2
      exact h9 l' r' hr2
/-- a limit is no more than what is left for each box -/
theorem lim_left {D : HD} {rs : List Ru} {ha : Nat → Nat → Nat} {sp : Nat → Nat} {b i p : Nat} (hb : 1 ≤ lo D 3 i) (hp : 1 ≤ p) (hp2 : p ≤ 999) (hc : cr D b ≤ 1000000) (h : ¬ limP D rs ha sp b i < n32 p) : p * lo D 3 i ≤ cr D b - sp b := by
  unfold limP at h
  have hq : (cr D b - sp b) / lo D 3 i ≤ cr D b - sp b := Nat.div_le_self _ _
  by_cases hw : wn D b (lo D 1 i) - ha b (lo D 1 i) < lo D 3 i
  · rw [if_pos hw] at h
    exact absurd (show n32 0 < n32 p by first | assumption | omega | (simp (disch := omega) only [n32_of, neg_n32_1, n32_nat, n32_lt, n32_le, n32_eq, n32_add, n32_sub, n32_mul, n32_m1, m1_n32, n32_addm1, m1_lt, lt_m1, m1_le, le_m1, m1_add1, ofNat_n32, u2_self, u2_n, mk_I, mk_T, ne_eq, not_true_eq_false, not_false_eq_true, ]; first | done | omega)) h
  · rw [if_neg hw] at h
    have h1 : ¬ n32 ((cr D b - sp b) / lo D 3 i) < n32 p := by
      unfold mn at h
      split at h
      · exact h
      · next hh =>
        intro hlt
        exact h (Int32.lt_of_le_of_lt (Int32.not_lt.mp hh) hlt)
    rw [n32_lt (by omega) (by omega)] at h1
    have h2 : p ≤ (cr D b - sp b) / lo D 3 i := by omega
    exact (Nat.le_div_iff_mul_le hb).mp h2
theorem gStop_I {K : SP} {G : SG} {c : Nat} (hK : KOK K) (hc : c < 3) (h : GI K G) : GI K (gStop K c G) := by
  unfold gStop
  cases hl : gcl G c with
  | none => exact h
  | some l =>
    simp only
    cases hb : bst (gLim K G l) (gOk K G) (n32 (gcp G c)) (hm (kD K)) with
    | none => exact h
    | some b =>
      simp only
      have hbs := bst_some hb
      have hlx := h.2.2.1 c l hc hl
      have hnx := h.1
      have hk := hK.2 l (by omega)
      have dl := hK.1.2.2.1 l (by omega)
      have db := hK.1.2.2.2.1 b hbs.1
      have h7 := h.2.2.2.2.2.2.1
      have hleft := lim_left dl.2.2.2.1 (by omega) hlx.2.2.2 db.2 hbs.2.2
      have hsp := h7.2.1 b hbs.1
      refine gset_I hK hc h hl ⟨fun b' e => by cases e; exact hbs.1, by show 1 ≤ gcp G c; omega, hlx.2.2.2, Nat.le_refl _, hc⟩ ⟨?_, ?_, ?_⟩ ?_
      · intro b' k
        have h0 := h7.1 b' k
        by_cases e : b' = b
        · subst e
          rw [fu_at]
          by_cases e2 : k = lo (kD K) 1 l
          · subst e2
            rw [fu_at]
            omega
          · rw [fu_ne e2]
            omega
        · rw [fu_ne e]
          omega
      · intro b' hb'
        by_cases e : b' = b
        · subst e
          rw [fu_at]
          have : gcp G c * lo (kD K) 3 l ≤ cr (kD K) b' - gsp G b' := hleft
          omega
        · rw [fu_ne e]
          exact h7.2.1 b' hb'
      · intro b' hb'
        rw [fu_ne (by omega), fu_ne (by omega)]
        exact h7.2.2 b' hb'
      · intro b'
        by_cases e : b' = b
        · subst e
          rw [fu_at]
          simp [isB]
        · rw [fu_ne e]
          simp [isB, show ¬ b = b' from fun q => e q.symm]
theorem gLow_I {K : SP} {G : SG} {c : Nat} (hK : KOK K) (hc : c < 3) (h : GI K G) : GI K (gLow K c G) := by
  unfold gLow
  cases hl : gcl G c with
  | none => exact h
  | some l =>
    simp only
    have hlx := h.2.2.1 c l hc hl
    have hnx := h.1
    have hk := hK.2 l (by omega)
    by_cases hp : kL K l < gcp G c
    · rw [if_pos hp]
      obtain ⟨h1, h2, h3, h4, h5, h6, h7, h8, h9⟩ := h
      refine ⟨h1, h2, fun c' l' hc' hl' => ?_, h4, h5, h6, h7, h8, h9⟩
      have := h3 c' l' hc' hl'
      show l' < gnx G ∧ gre G l' = none ∧ kL K l' ≤ fu (gcp G) c (gcp G c - 1) c' ∧ fu (gcp G) c (gcp G c - 1) c' ≤ 999
      refine ⟨this.1, this.2.1, ?_⟩
      by_cases e : c' = c
      · subst e
        have hl2 : gcl G c' = some l' := hl'
        rw [hl] at hl2
        cases hl2
        rw [fu_at]
        omega
      · rw [fu_ne e]
        exact this.2.2
    · rw [if_neg hp]
      refine gset_I hK hc h hl ⟨fun b' e => (by cases e), hk.1, by show kL K l ≤ 999; omega, Nat.le_refl _, hc⟩ ⟨?_, h.2.2.2.2.2.2.1.2⟩ ?_
      · intro b k
        have := h.2.2.2.2.2.2.1.1 b k
        omega
      · intro b
        simp [isB]
theorem gRest_I {K : SP} {G : SG} (h : GI K G) : GI K (gRest G) := h
theorem gFall_I {K : SP} {G : SG} (h : GI K G) : GI K (gFall G) := by
  obtain ⟨h1, h2, h3, h4, h5, h6, h7, h8, h9⟩ := h
  exact ⟨h1, h2, h3, h4, h5, h6, h7, h8, fun l r hr => by
    have := h9 l r hr
    exact ⟨this.1, this.2.1, this.2.2.1, by show r.2.2.1 ≤ gsec G + 1; omega, this.2.2.2.2⟩⟩
