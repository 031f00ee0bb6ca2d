/-! ===== the tape cut into tokens: on both sides the same ===== -/
def rnF (P : Nat → Bool) : Nat → Nat → Nat
  | 0, i => i
  | n + 1, i => if P i = true then rnF P n (i + 1) else i
/-- where a run of P from i on ends -/
def rn (P : Nat → Bool) (len i : Nat) : Nat := rnF P (len - i) i
theorem rn_s {P : Nat → Bool} {len i : Nat} (h : i < len) (hp : P i = true) : rn P len i = rn P len (i + 1) := by
  unfold rn
  rw [show len - i = (len - (i + 1)) + 1 by omega, rnF, if_pos hp]
theorem rn_e {P : Nat → Bool} {len i : Nat} (h : len ≤ i ∨ P i = false) : rn P len i = i := by
  unfold rn
  cases e : len - i with
  | zero => rfl
  | succ n =>
    rcases h with h | h
    · omega
    · rw [rnF, if_neg (by rw [h]; exact Bool.false_ne_true)]
theorem rnF_all {P : Nat → Bool} : ∀ (n i : Nat), i ≤ rnF P n i ∧ rnF P n i ≤ i + n ∧ (∀ j, i ≤ j → j < rnF P n i → P j = true) ∧ (rnF P n i < i + n → P (rnF P n i) = false) := by
  intro n
  induction n with
  | zero => intro i; exact ⟨Nat.le_refl _, Nat.le_refl _, fun j h1 h2 => absurd h2 (by show ¬ j < i; omega), fun h => absurd h (by show ¬ i < i + 0; omega)⟩
  | succ n ih =>
    intro i
    rw [rnF]
    by_cases h : P i = true
    · rw [if_pos h]
      obtain ⟨h1, h2, h3, h4⟩ := ih (i + 1)
      refine ⟨by omega, by omega, fun j p q => ?_, fun p => h4 (by omega)⟩
      by_cases e : j = i
      · rw [e]; exact h
      · exact h3 j (by omega) q
    · rw [if_neg h]
      exact ⟨Nat.le_refl _, by omega, fun j p q => absurd q (by omega), fun _ => by simpa using h⟩
theorem rn_all {P : Nat → Bool} {len i : Nat} (h : i ≤ len) : i ≤ rn P len i ∧ rn P len i ≤ len ∧ (∀ j, i ≤ j → j < rn P len i → P j = true) ∧ (rn P len i < len → P (rn P len i) = false) := by
  obtain ⟨h1, h2, h3, h4⟩ := rnF_all (P := P) (len - i) i
  exact ⟨h1, by unfold rn; omega, h3, fun q => h4 (by unfold rn at q; omega)⟩
theorem yz {p : Prop} [Decidable p] (h : p) : ¬ bI p = 0 := by rw [bI_0]; exact fun q => q h
theorem nz {p : Prop} [Decidable p] (h : ¬ p) : bI p = 0 := by rw [bI_0]; exact h
abbrev pBl (c : Nat) : Prop := c = 9 ∨ c = 10 ∨ c = 13 ∨ c = 32
abbrev pLt (c : Nat) : Prop := 97 ≤ c ∧ c ≤ 122
abbrev pDg (c : Nat) : Prop := 48 ≤ c ∧ c ≤ 57
def skp (b : Nat → Nat) (len i : Nat) : Nat := rn (fun i => decide (pBl (b i))) len i
def lte (b : Nat → Nat) (len i : Nat) : Nat := rn (fun i => decide (pLt (b i))) len i
def dge (b : Nat → Nat) (len i : Nat) : Nat := rn (fun i => decide (pDg (b i))) len i
def iv (b : Nat → Nat) (p : Nat) : Nat → Nat
  | 0 => 0
  | k + 1 => iv b p k * 10 + (b (p + k) - 48)
def nmv (b : Nat → Nat) (p : Nat) : Nat → Nat
  | 0 => 0
  | k + 1 => 27 * nmv b p k + (b (p + k) - 96)
def kyl : List Nat := [1705, 10492274, 6476969, 249, 423, 1111, 50348, 223456, 381245, 1375777, 6888250123, 237458, 37088111, 330846583, 52714253, 9173]
def wll : List Nat := [3, 5, 5, 2, 2, 3, 4, 4, 4, 5, 7, 4, 6, 6, 6, 3]
def wcl : List Nat := aTx.toList.map (fun ch => ch.toNat)
def wch (j : Nat) : Nat := wcl.getD j 0
def kyw (w : Nat) : Nat := kyl.getD w 0
def fw (M : Nat → Bool) : Nat → Nat → Nat
  | 0, _ => 26
  | n + 1, w => if M w = true then w else fw M n (w + 1)
def wkM (b : Nat → Nat) (p e w : Nat) : Bool := decide (kyw w = nmv b p (e - p))
def wtk (b : Nat → Nat) (p e : Nat) : Nat := if e - p ≤ 7 then fw (wkM b p e) 16 0 else 26
def sg2 (c : Nat) : Nat := if c = 61 then 20 else if c = 33 then 21 else 23
def sg1 (c : Nat) : Nat := if c = 40 then 24 else if c = 41 then 25 else if c = 42 then 19 else if c = 43 then 17 else if c = 45 then 18 else if c = 59 then 16 else if c = 60 then 22 else 26
abbrev two (b : Nat → Nat) (len p : Nat) : Prop := (p + 1 < len ∧ b (p + 1) = 61) ∧ (b p = 61 ∨ b p = 33 ∨ b p = 60)
/-- the token that begins at p, and where it ends -/
def lxT (b : Nat → Nat) (len p : Nat) : Nat := if len ≤ p then 27 else if pLt (b p) then wtk b p (lte b len p) else if pDg (b p) then (if dge b len p - p ≤ 4 then 32 + iv b p (dge b len p - p) else 26) else if two b len p then sg2 (b p) else sg1 (b p)
def lxE (b : Nat → Nat) (len p : Nat) : Nat := if len ≤ p then p else if pLt (b p) then lte b len p else if pDg (b p) then dge b len p else if two b len p then p + 2 else p + 1
theorem w_facts : ∀ w, w < 16 → (wll.getD w 0 ≤ 7 ∧ 1 ≤ wll.getD w 0) ∧ (∀ i, i < 8 → (i < wll.getD w 0 → pLt (wch (8 * w + i))) ∧ (wll.getD w 0 ≤ i → wch (8 * w + i) = 32)) ∧ nmv wch (8 * w) (wll.getD w 0) = kyw w := by decide +kernel
theorem ky_inj : ∀ w, w < 16 → ∀ w', w' < 16 → kyw w = kyw w' → w = w' := by decide +kernel
theorem aBy_w : ∀ j, j < 128 → aBy.getD j 0 = n32 (wch j) ∧ wch j < 256 := by decide +kernel
theorem nm_inj {b b' : Nat → Nat} {p p' : Nat} : ∀ (n n' : Nat), (∀ i, i < n → pLt (b (p + i))) → (∀ i, i < n' → pLt (b' (p' + i))) → nmv b p n = nmv b' p' n' → n = n' ∧ ∀ i, i < n → b (p + i) = b' (p' + i) := by
  intro n
  induction n with
  | zero =>
    intro n' h h' e
    cases n' with
    | zero => exact ⟨rfl, fun i hi => absurd hi (Nat.not_lt_zero i)⟩
    | succ n' =>
      have := h' n' (by omega)
      rw [nmv, nmv] at e
      omega
  | succ n ih =>
    intro n' h h' e
    cases n' with
    | zero =>
      have := h n (by omega)
      rw [nmv, nmv] at e
      omega
    | succ n' =>
      have a := h n (by omega)
      have a' := h' n' (by omega)
      rw [nmv, nmv] at e
      obtain ⟨q1, q2⟩ := ih n' (fun i hi => h i (by omega)) (fun i hi => h' i (by omega)) (by omega)
      subst q1
      refine ⟨rfl, fun i hi => ?_⟩
      by_cases ei : i = n
      · subst ei; omega
      · exact q2 i (by omega)
theorem nmv_cg {b b' : Nat → Nat} {p p' : Nat} : ∀ n, (∀ i, i < n → b (p + i) = b' (p' + i)) → nmv b p n = nmv b' p' n := by
  intro n
  induction n with
  | zero => intro _; rfl
  | succ n ih =>
    intro h
    rw [nmv, nmv, ih (fun i hi => h i (by omega)), h n (by omega)]
/-- the column of a word against the bytes -/
abbrev mtc (b : Nat → Nat) (p e w j : Nat) : Prop := wch (8 * w + j) = if p + j < e then b (p + j) else 32
theorem wm_iff {b : Nat → Nat} {p e w : Nat} (hl : ∀ j, p ≤ j → j < e → pLt (b j)) (hw : w < 16) (he : e - p ≤ 8) (hpe : p < e) : (∀ j, j < 8 → mtc b p e w j) ↔ (e - p ≤ 7 ∧ kyw w = nmv b p (e - p)) := by
  obtain ⟨⟨f1, f1'⟩, f2, f3⟩ := w_facts w hw
  generalize wll.getD w 0 = L at f1 f1' f2 f3
  constructor
  · intro h
    have e1 : p + (L - 1) < e := by
      have a := (f2 (L - 1) (by omega)).1 (by omega)
      have c := h (L - 1) (by omega)
      unfold mtc at c
      split at c
      · assumption
      · rw [c] at a; omega
    have e2 : ¬ p + L < e := by
      intro q
      have a := (f2 L (by omega)).2 (Nat.le_refl _)
      have c := h L (by omega)
      unfold mtc at c
      rw [if_pos q, a] at c
      have := hl (p + L) (by omega) q
      rw [← c] at this
      omega
    have e3 : e - p = L := by omega
    refine ⟨by omega, ?_⟩
    rw [e3, ← f3]
    refine nmv_cg L (fun i hi => ?_)
    have c := h i (by omega)
    unfold mtc at c
    rw [if_pos (by omega)] at c
    exact c
  · rintro ⟨h7, hk⟩
    rw [← f3] at hk
    obtain ⟨q1, q2⟩ := nm_inj (b := wch) (b' := b) (p := 8 * w) (p' := p) L (e - p) (fun i hi => (f2 i (by omega)).1 hi) (fun i hi => hl (p + i) (by omega) (by omega)) hk
    intro j hj
    unfold mtc
    by_cases hjl : j < L
    · rw [if_pos (by omega)]
      exact q2 j hjl
    · rw [if_neg (by omega)]
      exact (f2 j hj).2 (by omega)
theorem fw_no {M : Nat → Bool} : ∀ (n w : Nat), (∀ j, w ≤ j → j < w + n → M j = false) → fw M n w = 26 := by
  intro n
  induction n with
  | zero => intro w _; rfl
  | succ n ih =>
    intro w h
    rw [fw, if_neg (by rw [h w (by omega) (by omega)]; exact Bool.false_ne_true)]
    exact ih (w + 1) (fun j h1 h2 => h j (by omega) (by omega))
theorem fw_lt {M : Nat → Bool} : ∀ (n w : Nat), w + n ≤ 16 → fw M n w < 16 ∨ fw M n w = 26 := by
  intro n
  induction n with
  | zero => intro w _; exact Or.inr rfl
  | succ n ih =>
    intro w h
    rw [fw]
    split
    · exact Or.inl (by omega)
    · exact ih (w + 1) (by omega)
theorem iv_lt {b : Nat → Nat} {p : Nat} : ∀ k, (∀ i, i < k → pDg (b (p + i))) → iv b p k < 10 ^ k := by
  intro k
  induction k with
  | zero => intro _; exact Nat.one_pos
  | succ k ih =>
    intro h
    have a := ih (fun i hi => h i (by omega))
    have c := h k (by omega)
    rw [iv, Nat.pow_succ]
    omega
theorem sg1_lt (c : Nat) : 16 ≤ sg1 c ∧ sg1 c ≤ 26 := by
  unfold sg1
  repeat' split
  all_goals omega
theorem sg2_lt (c : Nat) : 20 ≤ sg2 c ∧ sg2 c ≤ 23 := by
  unfold sg2
  repeat' split
  all_goals omega
theorem wtk_lt (b : Nat → Nat) (p e : Nat) : wtk b p e < 16 ∨ wtk b p e = 26 := by
  unfold wtk
  split
  · exact fw_lt 16 0 (by omega)
  · exact Or.inr rfl
/-- every token is a number below 20000, none between 28 and 31; only the end is 27 -/
theorem lxT_lt {b : Nat → Nat} {len p : Nat} (hp : p ≤ len) : (lxT b len p ≤ 27 ∨ (32 ≤ lxT b len p ∧ lxT b len p < 10032)) ∧ (lxT b len p = 27 ↔ p = len) := by
  unfold lxT
  by_cases h : len ≤ p
  · rw [if_pos h]
    exact ⟨Or.inl (Nat.le_refl _), fun _ => by omega, fun _ => rfl⟩
  rw [if_neg h]
  have hne : ¬ p = len := by omega
  split
  · rcases wtk_lt b p (lte b len p) with q | q
    · exact ⟨Or.inl (by omega), fun e => by omega, fun e => absurd e hne⟩
    · exact ⟨Or.inl (by omega), fun e => by omega, fun e => absurd e hne⟩
  split
  · split
    · next h4 =>
      obtain ⟨r1, r2, r3, r4⟩ := rn_all (P := fun i => decide (pDg (b i))) hp
      have hlt := iv_lt (b := b) (p := p) (dge b len p - p) (fun i hi => of_decide_eq_true (r3 (p + i) (by omega) (by unfold dge at hi; omega)))
      have := Nat.pow_le_pow_right (show 0 < 10 by omega) h4
      have e4 : 10 ^ 4 = 10000 := by decide
      exact ⟨Or.inr ⟨by omega, by omega⟩, fun e => by omega, fun e => absurd e hne⟩
    · exact ⟨Or.inl (by omega), fun e => by omega, fun e => absurd e hne⟩
  split
  · have := sg2_lt (b p)
    exact ⟨Or.inl (by omega), fun e => by omega, fun e => absurd e hne⟩
  · have := sg1_lt (b p)
    exact ⟨Or.inl (by omega), fun e => by omega, fun e => absurd e hne⟩
theorem lxE_lt {b : Nat → Nat} {len p : Nat} (hp : p < len) : p < lxE b len p ∧ lxE b len p ≤ len := by
  unfold lxE
  rw [if_neg (by omega)]
  split
  · next h =>
    have a := rn_s (P := fun i => decide (pLt (b i))) hp (decide_eq_true h)
    obtain ⟨r1, r2, -, -⟩ := rn_all (P := fun i => decide (pLt (b i))) (len := len) (i := p + 1) (by omega)
    unfold lte
    rw [a]
    omega
  split
  · next h =>
    have a := rn_s (P := fun i => decide (pDg (b i))) hp (decide_eq_true h)
    obtain ⟨r1, r2, -, -⟩ := rn_all (P := fun i => decide (pDg (b i))) (len := len) (i := p + 1) (by omega)
    unfold dge
    rw [a]
    omega
  split
  · omega
  · omega
/-- where the k-th token is looked for; its place; the token -/
def tAt (b : Nat → Nat) (len : Nat) : Nat → Nat
  | 0 => 0
  | k + 1 => lxE b len (skp b len (tAt b len k))
def tPl (b : Nat → Nat) (len k : Nat) : Nat := skp b len (tAt b len k)
def tTk (b : Nat → Nat) (len k : Nat) : Nat := lxT b len (tPl b len k)
theorem skp_le {b : Nat → Nat} {len i : Nat} (h : i ≤ len) : i ≤ skp b len i ∧ skp b len i ≤ len := by
  obtain ⟨r1, r2, -, -⟩ := rn_all (P := fun i => decide (pBl (b i))) h
  exact ⟨r1, r2⟩
theorem lxE_le {b : Nat → Nat} {len p : Nat} (hp : p ≤ len) : p ≤ lxE b len p ∧ lxE b len p ≤ len := by
  by_cases h : p < len
  · have := lxE_lt (b := b) h
    omega
  · unfold lxE
    rw [if_pos (by omega)]
    omega
theorem tAt_le (b : Nat → Nat) (len : Nat) : ∀ k, tAt b len k ≤ len := by
  intro k
  induction k with
  | zero => exact Nat.zero_le _
  | succ k ih => exact (lxE_le (skp_le ih).2).2
theorem tPl_le (b : Nat → Nat) (len k : Nat) : tAt b len k ≤ tPl b len k ∧ tPl b len k ≤ len := skp_le (tAt_le b len k)
theorem tTk_lt (b : Nat → Nat) (len k : Nat) : (tTk b len k ≤ 27 ∨ (32 ≤ tTk b len k ∧ tTk b len k < 10032)) ∧ (tTk b len k = 27 ↔ tPl b len k = len) := lxT_lt (tPl_le b len k).2
/-- tokens ahead of the end take a byte each -/
theorem tAt_k {b : Nat → Nat} {len : Nat} : ∀ k, (∀ j, j < k → tTk b len j ≠ 27) → k ≤ tAt b len k := by
  intro k
  induction k with
  | zero => intro _; exact Nat.zero_le _
  | succ k ih =>
    intro h
    have a := ih (fun j hj => h j (by omega))
    have c := tPl_le b len k
    have d : tPl b len k ≠ len := fun e => h k (by omega) ((tTk_lt b len k).2.2 e)
    have e := lxE_lt (b := b) (len := len) (p := tPl b len k) (by omega)
    show k + 1 ≤ lxE b len (tPl b len k)
    omega
