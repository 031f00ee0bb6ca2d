/-! ===== loads: fewest lots for most boxes ===== -/
def few : List Nat → Nat → Nat
  | [], s => if s = 0 then 0 else 1000
  | c :: cs, s => min (few cs s) (if c ≤ s then few cs (s - c) + 1 else 1000)
def gdv : List Nat → Nat → Nat
  | [], _ => 0
  | c :: cs, r => if c ≤ r then max (gdv cs r) (100 * c - 1 + gdv cs (r - c)) else gdv cs r
def mst (cs : List Nat) : Nat → Nat
  | 0 => 0
  | r + 1 => if few cs (r + 1) < 1000 then r + 1 else mst cs r
theorem few_0 (cs : List Nat) : few cs 0 = 0 := by
  induction cs with
  | nil => rfl
  | cons c cs ih => rw [few, ih]; exact Nat.zero_min _
theorem few_len (cs : List Nat) : ∀ s, few cs s ≤ cs.length ∨ 1000 ≤ few cs s := by
  induction cs with
  | nil =>
    intro s
    rw [few]
    split
    · exact Or.inl (Nat.zero_le _)
    · exact Or.inr (Nat.le_refl _)
  | cons c cs ih =>
    intro s
    rw [few, List.length_cons]
    have h1 := ih s
    have h2 := ih (s - c)
    split <;> omega
theorem mst_le (cs : List Nat) : ∀ r, mst cs r ≤ r
  | 0 => Nat.le_refl _
  | r + 1 => by
    rw [mst]
    split
    · exact Nat.le_refl _
    · have := mst_le cs r
      omega
theorem mst_few (cs : List Nat) : ∀ r, few cs (mst cs r) < 1000
  | 0 => by rw [mst, few_0]; omega
  | r + 1 => by
    rw [mst]
    split
    · assumption
    · exact mst_few cs r
theorem mst_max (cs : List Nat) : ∀ r s, s ≤ r → few cs s < 1000 → s ≤ mst cs r
  | 0, s, h, _ => by omega
  | r + 1, s, h, hf => by
    rw [mst]
    split
    · exact h
    · next hn =>
      by_cases e : s = r + 1
      · rw [e] at hf
        exact absurd hf hn
      · exact mst_max cs r s (by omega) hf
/-- the two roads at one lot -/
theorem mst_cons (c : Nat) (cs : List Nat) (r : Nat) (hl : cs.length < 99) : (r < c → mst (c :: cs) r = mst cs r ∧ few (c :: cs) (mst cs r) = few cs (mst cs r)) ∧ (c ≤ r → mst (c :: cs) r = max (mst cs r) (c + mst cs (r - c)) ∧ few (c :: cs) (mst (c :: cs) r) = (if mst cs r < c + mst cs (r - c) then few cs (mst cs (r - c)) + 1 else if c + mst cs (r - c) < mst cs r then few cs (mst cs r) else min (few cs (mst cs r)) (few cs (mst cs (r - c)) + 1))) := by
  have a1 := mst_le cs r
  have a2 := mst_few cs r
  have a3 := mst_max cs r
  have b1 := mst_le (c :: cs) r
  have b2 := mst_few (c :: cs) r
  have b3 := mst_max (c :: cs) r
  have d1 := mst_le cs (r - c)
  have d2 := mst_few cs (r - c)
  have d3 := mst_max cs (r - c)
  have l1 := few_len cs
  have la1 := l1 (mst cs r)
  have ld1 := l1 (mst cs (r - c))
  generalize mst cs r = m1 at *
  generalize mst (c :: cs) r = m at *
  generalize mst cs (r - c) = m2 at *
  constructor
  · intro h
    have hm : m = m1 := by
      apply Nat.le_antisymm
      · apply a3 m b1
        rw [few, if_neg (by omega)] at b2
        omega
      · apply b3 m1 a1
        rw [few, if_neg (by omega)]
        omega
    refine ⟨hm, ?_⟩
    rw [few, if_neg (by omega)]
    omega
  · intro h
    have h1 : m1 ≤ m := by
      apply b3 m1 a1
      rw [few]
      omega
    have h2 : c + m2 ≤ m := by
      apply b3 (c + m2) (by omega)
      rw [few, if_pos (by omega), show c + m2 - c = m2 by omega]
      omega
    have h3 : m ≤ m1 ∨ (c ≤ m ∧ m - c ≤ m2) := by
      rw [few] at b2
      by_cases hc : c ≤ m
      · rw [if_pos hc] at b2
        by_cases hf : few cs m < 1000
        · exact Or.inl (a3 m b1 hf)
        · exact Or.inr ⟨hc, d3 (m - c) (by omega) (by omega)⟩
      · rw [if_neg hc] at b2
        exact Or.inl (a3 m b1 (by omega))
    have hm : m = max m1 (c + m2) := by omega
    refine ⟨hm, ?_⟩
    rw [few]
    by_cases hlt : m1 < c + m2
    · rw [if_pos hlt]
      have em : m = c + m2 := by omega
      have hno : ¬ few cs m < 1000 := fun q => by have := a3 m b1 q; omega
      rw [if_pos (by omega), em, show c + m2 - c = m2 by omega]
      rw [em] at hno
      omega
    · rw [if_neg hlt]
      have em : m = m1 := by omega
      by_cases hgt : c + m2 < m1
      · rw [if_pos hgt, em]
        by_cases hc : c ≤ m1
        · rw [if_pos hc]
          have hno : ¬ few cs (m1 - c) < 1000 := fun q => by have := d3 (m1 - c) (by omega) q; omega
          omega
        · omega
      · rw [if_neg hgt, em, if_pos (by omega), show m1 - c = m2 by omega]
theorem gdv_few (cs : List Nat) : cs.length < 99 → (∀ c ∈ cs, 1 ≤ c) → ∀ r, gdv cs r + few cs (mst cs r) = 100 * mst cs r := by
  induction cs with
  | nil =>
    intro _ _ r
    have : mst [] r = 0 := by
      induction r with
      | zero => rfl
      | succ r ih =>
        rw [mst, if_neg, ih]
        rw [few, if_neg (by omega)]
        omega
    rw [this]
    rfl
  | cons c cs ih =>
    intro hl hp r
    rw [List.length_cons] at hl
    have hc := hp c List.mem_cons_self
    have hp' : ∀ c ∈ cs, 1 ≤ c := fun x hx => hp x (List.mem_cons_of_mem _ hx)
    have i1 := ih (by omega) hp' r
    have i2 := ih (by omega) hp' (r - c)
    obtain ⟨m1, m2⟩ := mst_cons c cs r (by omega)
    have lf := few_len cs
    have l1 := lf (mst cs r)
    have l2 := lf (mst cs (r - c))
    have f1 := mst_few cs r
    have f2 := mst_few cs (r - c)
    rw [gdv]
    by_cases h : c ≤ r
    · obtain ⟨e1, e2⟩ := m2 h
      rw [if_pos h, e2, e1]
      split
      · omega
      · split <;> omega
    · obtain ⟨e1, e2⟩ := m1 (by omega)
      rw [if_neg h, e1, e2]
      exact i1
/-- which are taken, the program's way and the reference's -/
def selX (bx : Nat → Nat) : List Nat → Nat → List Nat
  | [], _ => []
  | l :: ls, r => if bx l ≤ r ∧ few (ls.map bx) (r - bx l) + 1 = few ((l :: ls).map bx) r then l :: selX bx ls (r - bx l) else selX bx ls r
def selR (bx : Nat → Nat) : List Nat → Nat → List Nat
  | [], _ => []
  | l :: ls, r => if bx l ≤ r ∧ gdv ((l :: ls).map bx) r ≤ 100 * bx l - 1 + gdv (ls.map bx) (r - bx l) then l :: selR bx ls (r - bx l) else selR bx ls r
theorem sel_eq (bx : Nat → Nat) (ls : List Nat) : ls.length < 99 → (∀ l ∈ ls, 1 ≤ bx l) → ∀ r, selX bx ls (mst (ls.map bx) r) = selR bx ls r := by
  induction ls with
  | nil => intros; rfl
  | cons l ls ih =>
    intro hl hp r
    rw [List.length_cons] at hl
    have hc := hp l List.mem_cons_self
    have hp' : ∀ x ∈ ls, 1 ≤ bx x := fun x hx => hp x (List.mem_cons_of_mem _ hx)
    have hq : ∀ c ∈ ls.map bx, 1 ≤ c := fun c hc => by
      obtain ⟨x, hx, rfl⟩ := List.mem_map.mp hc
      exact hp' x hx
    have hlen : (ls.map bx).length < 98 := by rw [List.length_map]; omega
    have i1 := ih (by omega) hp' r
    have i2 := ih (by omega) hp' (r - bx l)
    have g1 := gdv_few (ls.map bx) (by omega) hq r
    have g2 := gdv_few (ls.map bx) (by omega) hq (r - bx l)
    obtain ⟨m1, m2⟩ := mst_cons (bx l) (ls.map bx) r (by omega)
    have lf := few_len (ls.map bx)
    have l1 := lf (mst (ls.map bx) r)
    have l2 := lf (mst (ls.map bx) (r - bx l))
    have f1 := mst_few (ls.map bx) r
    have f2 := mst_few (ls.map bx) (r - bx l)
    have a1 := mst_le (ls.map bx) r
    have a3 := mst_max (ls.map bx) (r - bx l)
    rw [selX, selR, List.map_cons]
    by_cases h : bx l ≤ r
    · obtain ⟨e1, e2⟩ := m2 h
      have eg : gdv (bx l :: ls.map bx) r = max (gdv (ls.map bx) r) (100 * bx l - 1 + gdv (ls.map bx) (r - bx l)) := by rw [gdv, if_pos h]
      rcases Nat.lt_trichotomy (mst (ls.map bx) r) (bx l + mst (ls.map bx) (r - bx l)) with hlt | heq | hgt
      · rw [if_pos hlt] at e2
        have em : mst (bx l :: ls.map bx) r = bx l + mst (ls.map bx) (r - bx l) := by omega
        rw [e2, eg, em, if_pos ⟨by omega, by rw [Nat.add_sub_cancel_left]⟩, if_pos ⟨h, by omega⟩, Nat.add_sub_cancel_left, i2]
      · rw [if_neg (by omega), if_neg (by omega)] at e2
        have em : mst (bx l :: ls.map bx) r = mst (ls.map bx) r := by omega
        have ed : mst (ls.map bx) r - bx l = mst (ls.map bx) (r - bx l) := by omega
        rw [e2, eg, em, ed]
        by_cases ht : few (ls.map bx) (mst (ls.map bx) (r - bx l)) + 1 ≤ few (ls.map bx) (mst (ls.map bx) r)
        · rw [if_pos ⟨by omega, by omega⟩, if_pos ⟨h, by omega⟩, i2]
        · rw [if_neg (fun q => ht (by omega)), if_neg (fun q => ht (by omega)), i1]
      · rw [if_neg (by omega), if_pos hgt] at e2
        have em : mst (bx l :: ls.map bx) r = mst (ls.map bx) r := by omega
        rw [e2, eg, em, if_neg, if_neg, i1]
        · intro q
          omega
        · intro q
          have hno : ¬ few (ls.map bx) (mst (ls.map bx) r - bx l) < 1000 := fun z => by have := a3 (mst (ls.map bx) r - bx l) (by omega) z; omega
          omega
    · obtain ⟨e1, e2⟩ := m1 (by omega)
      have hX : ¬ (bx l ≤ mst (bx l :: ls.map bx) r ∧ few (ls.map bx) (mst (bx l :: ls.map bx) r - bx l) + 1 = few (bx l :: ls.map bx) (mst (bx l :: ls.map bx) r)) := fun q => by omega
      rw [if_neg hX, if_neg (fun q => h q.1), e1, i1]
/-- lots from one on with a property -/
def cfr (p : Nat → Bool) : Nat → Nat → List Nat
  | 0, _ => []
  | k + 1, l => if p l then l :: cfr p k (l + 1) else cfr p k (l + 1)
theorem cfr_len (p : Nat → Bool) : ∀ k l, (cfr p k l).length ≤ k
  | 0, _ => Nat.le_refl _
  | k + 1, l => by
    rw [cfr]
    have := cfr_len p k (l + 1)
    split
    · rw [List.length_cons]; omega
    · omega
theorem cfr_mem {p : Nat → Bool} {x : Nat} : ∀ {k l : Nat}, x ∈ cfr p k l → l ≤ x ∧ x < l + k ∧ p x = true
  | 0, l, h => by cases h
  | k + 1, l, h => by
    rw [cfr] at h
    by_cases hp : p l = true
    · rw [if_pos hp] at h
      rcases List.mem_cons.mp h with rfl | h
      · exact ⟨Nat.le_refl _, by omega, hp⟩
      · have := cfr_mem h
        exact ⟨by omega, by omega, this.2.2⟩
    · rw [if_neg hp] at h
      have := cfr_mem h
      exact ⟨by omega, by omega, this.2.2⟩
theorem cfr_cg {p p' : Nat → Bool} : ∀ {k l : Nat}, (∀ x, l ≤ x → x < l + k → p x = p' x) → cfr p k l = cfr p' k l
  | 0, l, h => rfl
  | k + 1, l, h => by
    rw [cfr, cfr, cfr_cg (fun x h1 h2 => h x (by omega) (by omega)), h l (by omega) (by omega)]
theorem selR_mem {bx : Nat → Nat} {x : Nat} : ∀ {ls : List Nat} {r : Nat}, x ∈ selR bx ls r → x ∈ ls
  | [], r, h => by cases h
  | l :: ls, r, h => by
    rw [selR] at h
    split at h
    · rcases List.mem_cons.mp h with rfl | h
      · exact List.mem_cons_self
      · exact List.mem_cons_of_mem _ (selR_mem h)
    · exact List.mem_cons_of_mem _ (selR_mem h)
/-- the taken ones in their order -/
theorem selR_cfr {bx : Nat → Nat} {p : Nat → Bool} : ∀ (k l r : Nat), cfr (fun x => decide (x ∈ selR bx (cfr p k l) r)) k l = selR bx (cfr p k l) r
  | 0, l, r => rfl
  | k + 1, l, r => by
    have hnot : ∀ (r' : Nat), l ∉ selR bx (cfr p k (l + 1)) r' := fun r' h => by
      have := cfr_mem (selR_mem h)
      omega
    by_cases hp : p l = true
    · have e : cfr p (k + 1) l = l :: cfr p k (l + 1) := by rw [cfr, if_pos hp]
      rw [e, selR]
      by_cases ht : bx l ≤ r ∧ gdv ((l :: cfr p k (l + 1)).map bx) r ≤ 100 * bx l - 1 + gdv ((cfr p k (l + 1)).map bx) (r - bx l)
      · rw [if_pos ht, cfr, if_pos (by simp)]
        congr 1
        rw [← selR_cfr k (l + 1) (r - bx l)]
        refine cfr_cg (fun x h1 h2 => ?_)
        rw [selR_cfr k (l + 1) (r - bx l)]
        have : x ≠ l := by omega
        simp [this]
      · rw [if_neg ht, cfr, if_neg (by simpa using hnot r)]
        exact selR_cfr k (l + 1) r
    · have e : cfr p (k + 1) l = cfr p k (l + 1) := by rw [cfr, if_neg hp]
      rw [e, cfr, if_neg (by simpa using hnot r)]
      exact selR_cfr k (l + 1) r
