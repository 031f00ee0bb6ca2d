/-- a truth as an int -/
def bI (p : Prop) [Decidable p] : Int32 := if p then 1 else 0
theorem bI_t {p : Prop} [Decidable p] (h : p) : bI p = 1 := if_pos h
theorem bI_f {p : Prop} [Decidable p] (h : ¬ p) : bI p = 0 := if_neg h
theorem bI_0 {p : Prop} [Decidable p] : (bI p = 0) = ¬ p := by
  unfold bI
  split
  · next h => simp [h]
  · next h => simp [h]
theorem bI_n0 {p : Prop} [Decidable p] : (bI p ≠ 0) = p := by
  unfold bI
  split
  · next h => simp [h]
  · next h => simp [h]
theorem bI_1 {p : Prop} [Decidable p] : (bI p = 1) = p := by
  unfold bI
  split
  · next h => simp [h]
  · next h => simp [h]
theorem bI_z {p : Prop} [Decidable p] : (bI p = n32 0) = ¬ p := bI_0
theorem bI_nz {p : Prop} [Decidable p] : (bI p ≠ n32 0) = p := bI_n0
theorem bI_o {p : Prop} [Decidable p] : (bI p = n32 1) = p := bI_1
theorem bI_cg {p q : Prop} [Decidable p] [Decidable q] (h : p ↔ q) : bI p = bI q := by
  unfold bI
  simp only [h]
theorem nar_bI {p : Prop} [Decidable p] : vp_nar .boolean (bI p) = bI p := by
  unfold bI
  split
  · exact nar_b1
  · exact nar_b0
theorem s_isBelow (N : Nat) (x b : Int32) (σ : aSt) : F_X11_isBelow N x b σ = some (bI (¬ x < 0 ∧ x < b), σ) := by
  unfold F_X11_isBelow J_X11_isBelow_13 J_X11_isBelow_14
  rw [cO_t nar_b0, cO_t nar_b1]
  by_cases h1 : x < 0
  · rw [if_pos h1, bI_f (fun h => h.1 h1)]
  · rw [if_neg h1]
    by_cases h2 : b ≤ x
    · rw [if_pos h2, bI_f (fun h => absurd h.2 (Int32.not_lt.mpr h2))]
    · rw [if_neg h2, bI_t ⟨h1, Int32.not_le.mp h2⟩]
theorem s_isWithin (N : Nat) (x a b : Int32) (σ : aSt) : F_X11_isWithin N x a b σ = some (bI (¬ x < a ∧ ¬ b < x), σ) := by
  unfold F_X11_isWithin J_X11_isWithin_14 J_X11_isWithin_15
  rw [cO_t nar_b0, cO_t nar_b1]
  by_cases h1 : x < a
  · rw [if_pos h1, bI_f (fun h => h.1 h1)]
  · rw [if_neg h1]
    by_cases h2 : b < x
    · rw [if_pos h2, bI_f (fun h => h.2 h2)]
    · rw [if_neg h2, bI_t ⟨h1, h2⟩]
theorem s_hasLot (N : Nat) (x : Int32) (σ : aSt) : F_X2_hasLot N x σ = some (bI (¬ x < 0 ∧ x < aI σ 11 1), σ) := by
  unfold F_X2_hasLot J_X2_hasLot_16 J_X2_hasLot_17
  rw [cO_t nar_b0, cO_t nar_b1]
  by_cases h1 : x < 0
  · rw [if_pos h1, bI_f (fun h => h.1 h1)]
  · rw [if_neg h1]
    by_cases h2 : aI σ 11 1 ≤ x
    · rw [if_pos h2, bI_f (fun h => absurd h.2 (Int32.not_lt.mpr h2))]
    · rw [if_neg h2, bI_t ⟨h1, Int32.not_le.mp h2⟩]
theorem s_hasBuyer (N : Nat) (x : Int32) (σ : aSt) : F_X2_hasBuyer N x σ = some (bI (¬ x < 0 ∧ x < aI σ 11 3), σ) := by
  unfold F_X2_hasBuyer J_X2_hasBuyer_16 J_X2_hasBuyer_17
  rw [cO_t nar_b0, cO_t nar_b1]
  by_cases h1 : x < 0
  · rw [if_pos h1, bI_f (fun h => h.1 h1)]
  · rw [if_neg h1]
    by_cases h2 : aI σ 11 3 ≤ x
    · rw [if_pos h2, bI_f (fun h => absurd h.2 (Int32.not_lt.mpr h2))]
    · rw [if_neg h2, bI_t ⟨h1, Int32.not_le.mp h2⟩]
theorem s_isBuyer (N : Nat) (x : Int32) (σ : aSt) : F_X12_isBuyer N x σ = some (bI (¬ x < 0 ∧ x < aI σ 235 43), σ) := by
  unfold F_X12_isBuyer J_X12_isBuyer_16 J_X12_isBuyer_17
  rw [cO_t nar_b0, cO_t nar_b1]
  by_cases h1 : x < 0
  · rw [if_pos h1, bI_f (fun h => h.1 h1)]
  · rw [if_neg h1]
    by_cases h2 : aI σ 235 43 ≤ x
    · rw [if_pos h2, bI_f (fun h => absurd h.2 (Int32.not_lt.mpr h2))]
    · rw [if_neg h2, bI_t ⟨h1, Int32.not_le.mp h2⟩]
theorem s_isLot (N : Nat) (x : Int32) (σ : aSt) : F_X12_isLot N x σ = some (bI (¬ x < 0 ∧ x < aI σ 235 37), σ) := by
  unfold F_X12_isLot J_X12_isLot_16 J_X12_isLot_17
  rw [cO_t nar_b0, cO_t nar_b1]
  by_cases h1 : x < 0
  · rw [if_pos h1, bI_f (fun h => h.1 h1)]
  · rw [if_neg h1]
    by_cases h2 : aI σ 235 37 ≤ x
    · rw [if_pos h2, bI_f (fun h => absurd h.2 (Int32.not_lt.mpr h2))]
    · rw [if_neg h2, bI_t ⟨h1, Int32.not_le.mp h2⟩]
theorem s_isKind (N : Nat) (x : Int32) (σ : aSt) : F_X12_isKind N x σ = some (bI (¬ x < 0 ∧ x < 6), σ) := by
  unfold F_X12_isKind J_X12_isKind_14 J_X12_isKind_15
  rw [cO_t nar_b0, cO_t nar_b1]
  by_cases h1 : x < 0
  · rw [if_pos h1, bI_f (fun h => h.1 h1)]
  · rw [if_neg h1]
    by_cases h2 : 6 ≤ x
    · rw [if_pos h2, bI_f (fun h => absurd h.2 (Int32.not_lt.mpr h2))]
    · rw [if_neg h2, bI_t ⟨h1, Int32.not_le.mp h2⟩]
def isLt (x : Int32) : Prop := ¬ x < 97 ∧ ¬ 122 < x
def isDg (x : Int32) : Prop := ¬ x < 48 ∧ ¬ 57 < x
def isBl (x : Int32) : Prop := x = 9 ∨ x = 10 ∨ x = 13 ∨ x = 32
def dLt (x : Int32) : Decidable (isLt x) := by unfold isLt; infer_instance
def dDg (x : Int32) : Decidable (isDg x) := by unfold isDg; infer_instance
def dBl (x : Int32) : Decidable (isBl x) := by unfold isBl; infer_instance
theorem s_isLetter (N : Nat) (x : Int32) (σ : aSt) : F_X8_isLetter N x σ = some (@bI (isLt x) (dLt x), σ) := by
  unfold F_X8_isLetter J_X8_isLetter_16 J_X8_isLetter_17
  rw [cO_t nar_b0, cO_t nar_b1]
  by_cases h1 : x < 97
  · rw [if_pos h1, @bI_f _ (dLt x) (fun h => h.1 h1)]
  · rw [if_neg h1]
    by_cases h2 : 122 < x
    · rw [if_pos h2, @bI_f _ (dLt x) (fun h => h.2 h2)]
    · rw [if_neg h2, @bI_t _ (dLt x) ⟨h1, h2⟩]
theorem s_isDigit (N : Nat) (x : Int32) (σ : aSt) : F_X8_isDigit N x σ = some (@bI (isDg x) (dDg x), σ) := by
  unfold F_X8_isDigit J_X8_isDigit_16 J_X8_isDigit_17
  rw [cO_t nar_b0, cO_t nar_b1]
  by_cases h1 : x < 48
  · rw [if_pos h1, @bI_f _ (dDg x) (fun h => h.1 h1)]
  · rw [if_neg h1]
    by_cases h2 : 57 < x
    · rw [if_pos h2, @bI_f _ (dDg x) (fun h => h.2 h2)]
    · rw [if_neg h2, @bI_t _ (dDg x) ⟨h1, h2⟩]
theorem s_isLetterR (N : Nat) (x : Int32) (σ : aSt) : F_X12_isLetter N x σ = some (@bI (isLt x) (dLt x), σ) := by
  unfold F_X12_isLetter J_X12_isLetter_16 J_X12_isLetter_17
  rw [cO_t nar_b0, cO_t nar_b1]
  by_cases h1 : x < 97
  · rw [if_pos h1, @bI_f _ (dLt x) (fun h => h.1 h1)]
  · rw [if_neg h1]
    by_cases h2 : 122 < x
    · rw [if_pos h2, @bI_f _ (dLt x) (fun h => h.2 h2)]
    · rw [if_neg h2, @bI_t _ (dLt x) ⟨h1, h2⟩]
theorem s_isDigitR (N : Nat) (x : Int32) (σ : aSt) : F_X12_isDigit N x σ = some (@bI (isDg x) (dDg x), σ) := by
  unfold F_X12_isDigit J_X12_isDigit_16 J_X12_isDigit_17
  rw [cO_t nar_b0, cO_t nar_b1]
  by_cases h1 : x < 48
  · rw [if_pos h1, @bI_f _ (dDg x) (fun h => h.1 h1)]
  · rw [if_neg h1]
    by_cases h2 : 57 < x
    · rw [if_pos h2, @bI_f _ (dDg x) (fun h => h.2 h2)]
    · rw [if_neg h2, @bI_t _ (dDg x) ⟨h1, h2⟩]
theorem s_isBlank (N : Nat) (x : Int32) (σ : aSt) : F_X8_isBlank N x σ = some (@bI (isBl x) (dBl x), σ) := by
  unfold F_X8_isBlank J_X8_isBlank_24 J_X8_isBlank_29
  rw [cO_t nar_b0, cO_t nar_b1]
  by_cases h1 : x = 9
  · rw [if_pos h1, @bI_t _ (dBl x) (Or.inl h1)]
  · rw [if_neg h1]
    by_cases h2 : x = 10
    · rw [if_pos h2, @bI_t _ (dBl x) (Or.inr (Or.inl h2))]
    · rw [if_neg h2]
      by_cases h3 : x = 13
      · rw [if_pos h3, @bI_t _ (dBl x) (Or.inr (Or.inr (Or.inl h3)))]
      · rw [if_neg h3]
        by_cases h4 : x = 32
        · rw [if_neg (fun h => h h4), @bI_t _ (dBl x) (Or.inr (Or.inr (Or.inr h4)))]
        · rw [if_pos h4, @bI_f _ (dBl x) (by rintro (h | h | h | h) <;> contradiction)]
theorem s_isEmpty (N a : Nat) (σ : aSt) : F_X1_isEmpty N a σ = some (bI (aI σ a 0 = -1), σ) := by
  unfold F_X1_isEmpty J_X1_isEmpty_13
  rw [cO_t nar_b0, cO_t nar_b1]
  by_cases h1 : aI σ a 0 = -1
  · rw [if_neg (fun h => h h1), bI_t h1]
  · rw [if_pos h1, bI_f h1]
theorem s_isSold (N a : Nat) (σ : aSt) : F_X6_isSold N a σ = some (bI (aI σ a 0 ≠ -1), σ) := by
  unfold F_X6_isSold
  by_cases h1 : aI σ a 0 = -1
  · rw [bI_f (fun h => h h1)]
    simp [h1, J_X6_isSold_13, cO_t nar_b0]
  · rw [bI_t h1]
    simp [h1, J_X6_isSold_13, cO_t nar_b1]
theorem s_max (N : Nat) (x y : Int32) (σ : aSt) : F_J9_max_7cf53 N x y σ = some (if x < y then y else x, σ) := by
  unfold F_J9_max_7cf53 J_J9_max_7cf53_10
  split <;> rfl
theorem s_min (N : Nat) (x y : Int32) (σ : aSt) : F_J9_min_7cf53 N x y σ = some (if y < x then y else x, σ) := by
  unfold F_J9_min_7cf53 J_J9_min_7cf53_10
  split <;> rfl
