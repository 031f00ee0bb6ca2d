def aSHl : List (Nat × Nat) := [(11, 9), (8, 12), (10, 8), (15, 20), (15, 20), (15, 20), (15, 20), (15, 400), (15, 32), (14, 2000), (15, 32), (2, 7), (21, 24), (18, 6), (15, 6), (10, 8), (15, 20), (15, 20), (15, 20), (15, 20), (15, 400), (15, 32), (15, 10), (5, 5), (5, 5), (5, 5), (5, 5), (5, 5), (5, 5), (5, 5), (5, 5), (5, 5), (5, 5), (5, 5), (5, 5), (5, 5), (5, 5), (5, 5), (5, 5), (5, 5), (5, 5), (5, 5), (5, 5), (5, 5), (5, 5), (5, 5), (5, 5), (0, 4), (15, 6), (10, 8), (15, 20), (15, 20), (15, 20), (15, 20), (15, 400), (15, 32), (0, 4), (15, 6), (10, 8), (15, 20), (15, 20), (15, 20), (15, 20), (15, 400), (15, 32), (0, 4), (15, 6), (10, 8), (15, 20), (15, 20), (15, 20), (15, 20), (15, 400), (15, 32), (0, 4), (15, 6), (10, 8), (15, 20), (15, 20), (15, 20), (15, 20), (15, 400), (15, 32), (0, 4), (15, 6), (10, 8), (15, 20), (15, 20), (15, 20), (15, 20), (15, 400), (15, 32), (0, 4), (15, 6), (10, 8), (15, 20), (15, 20), (15, 20), (15, 20), (15, 400), (15, 32), (9, 9), (22, 24), (23, 6), (19, 3), (6, 8), (6, 8), (6, 8), (6, 8), (6, 8), (6, 8), (6, 8), (6, 8), (6, 8), (6, 8), (6, 8), (6, 8), (6, 8), (6, 8), (6, 8), (6, 8), (6, 8), (6, 8), (6, 8), (6, 8), (6, 8), (6, 8), (6, 8), (6, 8), (7, 5), (15, 6), (7, 5), (15, 6), (7, 5), (15, 6), (7, 5), (15, 6), (7, 5), (15, 6), (7, 5), (15, 6), (1, 5), (15, 6), (1, 5), (15, 6), (1, 5), (15, 6), (9, 9), (22, 24), (23, 6), (19, 3), (6, 8), (6, 8), (6, 8), (6, 8), (6, 8), (6, 8), (6, 8), (6, 8), (6, 8), (6, 8), (6, 8), (6, 8), (6, 8), (6, 8), (6, 8), (6, 8), (6, 8), (6, 8), (6, 8), (6, 8), (6, 8), (6, 8), (6, 8), (6, 8), (7, 5), (15, 6), (7, 5), (15, 6), (7, 5), (15, 6), (7, 5), (15, 6), (7, 5), (15, 6), (7, 5), (15, 6), (1, 5), (15, 6), (1, 5), (15, 6), (1, 5), (15, 6), (3, 4), (15, 24), (15, 24), (24, 25), (15, 61), (15, 61), (15, 61), (15, 61), (15, 61), (15, 61), (15, 61), (15, 61), (15, 61), (15, 61), (15, 61), (15, 61), (15, 61), (15, 61), (15, 61), (15, 61), (15, 61), (15, 61), (15, 61), (15, 61), (15, 61), (15, 61), (15, 61), (15, 61), (15, 61), (20, 6), (4, 6), (15, 24), (4, 6), (15, 24), (4, 6), (15, 24), (4, 6), (15, 24), (4, 6), (15, 24), (4, 6), (15, 24), (12, 80), (13, 2000), (13, 2000), (15, 403), (15, 403), (15, 403), (16, 403), (16, 16), (15, 7), (15, 14), (15, 280), (15, 280), (15, 280), (15, 280), (15, 280), (15, 14), (15, 2800), (15, 2800), (15, 2800), (15, 2800), (17, 2800), (15, 7000), (15, 7000), (15, 48), (15, 24), (15, 24), (15, 24), (15, 24), (15, 24), (15, 6), (15, 6), (15, 36), (15, 6), (15, 6), (15, 6), (15, 6), (15, 36), (15, 6), (15, 6), (15, 10), (15, 500), (15, 36), (15, 6), (15, 3), (15, 3), (15, 24), (15, 24), (15, 24), (15, 24), (15, 24), (15, 24), (17, 6), (15, 24), (15, 24), (15, 24), (15, 24), (15, 24), (15, 24), (15, 24), (15, 24), (15, 1525), (17, 24)]
def aMRl : List (List (Option Nat)) := [[some 1, some 11, some 101, some 147, some 193, some 222], [none, none, none, some 9, none, none, none, none, none, none, some 10], [none, some 3, some 4, some 5, some 6, some 7, none, some 8], [], [], [], [], [], [], [], [], [some 12, none, some 13, none, some 14, none, some 22], [some 23, some 24, some 25, some 26, some 27, some 28, some 29, some 30, some 31, some 32, some 33, some 34, some 35, some 36, some 37, some 38, some 39, some 40, some 41, some 42, some 43, some 44, some 45, some 46], [some 47, some 56, some 65, some 74, some 83, some 92], [], [none, some 16, some 17, some 18, some 19, some 20, none, some 21], [], [], [], [], [], [], [], [], [], [], [], [], [], [], [], [], [], [], [], [], [], [], [], [], [], [], [], [], [], [], [], [none, none, some 48], [], [none, some 50, some 51, some 52, some 53, some 54, none, some 55], [], [], [], [], [], [], [none, none, some 57], [], [none, some 59, some 60, some 61, some 62, some 63, none, some 64], [], [], [], [], [], [], [none, none, some 66], [], [none, some 68, some 69, some 70, some 71, some 72, none, some 73], [], [], [], [], [], [], [none, none, some 75], [], [none, some 77, some 78, some 79, some 80, some 81, none, some 82], [], [], [], [], [], [], [none, none, some 84], [], [none, some 86, some 87, some 88, some 89, some 90, none, some 91], [], [], [], [], [], [], [none, none, some 93], [], [none, some 95, some 96, some 97, some 98, some 99, none, some 100], [], [], [], [], [], [], [some 11, some 102, some 103, none, some 104], [some 105, some 106, some 107, some 108, some 109, some 110, some 111, some 112, some 113, some 114, some 115, some 116, some 117, some 118, some 119, some 120, some 121, some 122, some 123, some 124, some 125, some 126, some 127, some 128], [some 129, some 131, some 133, some 135, some 137, some 139], [some 141, some 143, some 145], [], [], [], [], [], [], [], [], [], [], [], [], [], [], [], [], [], [], [], [], [], [], [], [], [none, none, none, some 130], [], [none, none, none, some 132], [], [none, none, none, some 134], [], [none, none, none, some 136], [], [none, none, none, some 138], [], [none, none, none, some 140], [], [none, none, none, none, some 142], [], [none, none, none, none, some 144], [], [none, none, none, none, some 146], [], [some 11, some 148, some 149, none, some 150], [some 151, some 152, some 153, some 154, some 155, some 156, some 157, some 158, some 159, some 160, some 161, some 162, some 163, some 164, some 165, some 166, some 167, some 168, some 169, some 170, some 171, some 172, some 173, some 174], [some 175, some 177, some 179, some 181, some 183, some 185], [some 187, some 189, some 191], [], [], [], [], [], [], [], [], [], [], [], [], [], [], [], [], [], [], [], [], [], [], [], [], [none, none, none, some 176], [], [none, none, none, some 178], [], [none, none, none, some 180], [], [none, none, none, some 182], [], [none, none, none, some 184], [], [none, none, none, some 186], [], [none, none, none, none, some 188], [], [none, none, none, none, some 190], [], [none, none, none, none, some 192], [], [some 194, some 195, none, some 196], [], [], [some 197, some 198, some 199, some 200, some 201, some 202, some 203, some 204, some 205, some 206, some 207, some 208, some 209, some 210, some 211, some 212, some 213, some 214, some 215, some 216, some 217, some 218, some 219, some 220, some 221], [], [], [], [], [], [], [], [], [], [], [], [], [], [], [], [], [], [], [], [], [], [], [], [], [], [some 223, some 225, some 227, some 229, some 231, some 233], [none, none, none, none, some 224], [], [none, none, none, none, some 226], [], [none, none, none, none, some 228], [], [none, none, none, none, some 230], [], [none, none, none, none, some 232], [], [none, none, none, none, some 234], [], [none, some 236, none, some 237, none, some 238, some 239, some 240, some 241, some 242, none, none, none, none, none, none, none, none, some 243, none, some 244, some 245, some 246, some 247, some 248, some 249, some 250, some 251, some 252, some 253, some 254, some 255, none, some 256, some 257, some 258, none, none, some 259, some 260, some 261, some 262, some 263, none, some 264, some 265, some 266, some 267, none, some 268, some 269, some 270, none, none, some 271, some 272, some 273, some 274, some 275, some 276, some 277, some 278, some 279, some 280, some 281, some 282, some 283, some 284, some 285, some 286, some 287, some 288, some 289, some 290, some 291, some 292, some 293, some 294, some 295, some 296], [], [], [], [], [], [], [], [], [], [], [], [], [], [], [], [], [], [], [], [], [], [], [], [], [], [], [], [], [], [], [], [], [], [], [], [], [], [], [], [], [], [], [], [], [], [], [], [], [], [], [], [], [], [], [], [], [], [], [], [], []]
/-- the cells that hold a text -/
def aTXl : List (Nat × Nat) := [(1, 2), (11, 5), (47, 3), (56, 3), (65, 3), (74, 3), (83, 3), (92, 3)]
def isSale (a : Nat) : Prop := a ∈ [101, 147]
def isTx (a : Nat) : Prop := a ∈ [2, 15, 49, 58, 67, 76, 85, 94]
def isPu (a : Nat) : Prop := a ∈ [129, 131, 133, 135, 137, 139, 175, 177, 179, 181, 183, 185]
def isOu (a : Nat) : Prop := a ∈ [105, 106, 107, 108, 109, 110, 111, 112, 113, 114, 115, 116, 117, 118, 119, 120, 121, 122, 123, 124, 125, 126, 127, 128, 151, 152, 153, 154, 155, 156, 157, 158, 159, 160, 161, 162, 163, 164, 165, 166, 167, 168, 169, 170, 171, 172, 173, 174]
def isCk (a : Nat) : Prop := a ∈ [141, 143, 145, 187, 189, 191]
def isLo (a : Nat) : Prop := a ∈ [23, 24, 25, 26, 27, 28, 29, 30, 31, 32, 33, 34, 35, 36, 37, 38, 39, 40, 41, 42, 43, 44, 45, 46]
def isBu (a : Nat) : Prop := a ∈ [47, 56, 65, 74, 83, 92]
def isLy (a : Nat) : Prop := a ∈ [223, 225, 227, 229, 231, 233]
/-- the graph: how many cells, their kinds, what refers to what; texts change hands -/
def Gr (σ : aSt) : Prop := σ.1 = 297 ∧ (∀ (a : Nat) (q : Nat × Nat), aSHl[a]? = some q → aH σ a = q) ∧ (∀ a k b : Nat, (aMRl.getD a []).getD k none = some b → aP σ a k = some b) ∧ (∀ a k : Nat, (a, k) ∈ aTXl → ∃ t, aP σ a k = some t ∧ isTx t) ∧ σ.2.1 = 46780
theorem aSHl_len : aSHl.length = 297 := by decide +kernel
theorem gr_ar {σ : aSt} {a k n : Nat} (hG : Gr σ) (h : aSHl[a]? = some (k, n)) : aAr σ a k n := ⟨by rw [hG.1, ← aSHl_len]; exact (List.getElem?_eq_some_iff.mp h).1, hG.2.1 a _ h⟩
theorem gr_ob {σ : aSt} {a k n : Nat} (hG : Gr σ) (h : aSHl[a]? = some (k, n)) : a < σ.1 ∧ (aH σ a).1 = k := ⟨(gr_ar hG h).1, by rw [(gr_ar hG h).2]⟩
theorem gr_p {σ : aSt} {a k b : Nat} (hG : Gr σ) (h : (aMRl.getD a []).getD k none = some b) : aP σ a k = some b := hG.2.2.1 a k b h
/-- the text that a cell holds -/
def aTxt (σ : aSt) (a k : Nat) : Nat := (aP σ a k).getD 0
theorem gr_tx {σ : aSt} {a k : Nat} (hG : Gr σ) (h : (a, k) ∈ aTXl) : aP σ a k = some (aTxt σ a k) ∧ isTx (aTxt σ a k) := by
  obtain ⟨t, h1, h2⟩ := hG.2.2.2.1 a k h
  unfold aTxt
  rw [h1]
  exact ⟨rfl, h2⟩
theorem gr_wi {σ σ1 : aSt} {a k : Nat} {x : Int32} (h : σ1 = aWI σ a k x) (hG : Gr σ) : Gr σ1 := by
  subst h
  exact hG
theorem gr_wj {σ σ1 : aSt} {a k : Nat} {x : Int64} (h : σ1 = aWJ σ a k x) (hG : Gr σ) : Gr σ1 := by
  subst h
  exact hG
theorem gr_wp {σ σ1 : aSt} {a k t : Nat} (h : σ1 = aWP σ a k (some t)) (ha : (a, k) ∈ aTXl) (ht : isTx t) (hn : (aMRl.getD a []).getD k none = none) (hG : Gr σ) : Gr σ1 := by
  subst h
  obtain ⟨g1, g2, g3, g4, g5⟩ := hG
  refine ⟨g1, g2, fun a' k' b hb => ?_, fun a' k' h' => ?_, g5⟩
  · show u2 σ.2.2.2.2.2 a k (some t) a' k' = some b
    by_cases e : a' = a ∧ k' = k
    · rw [e.1, e.2, hn] at hb
      cases hb
    · have := g3 a' k' b hb
      unfold u2
      split
      · next e1 =>
        split
        · next e2 => exact absurd ⟨e1, e2⟩ e
        · exact this
      · exact this
  · by_cases e : a' = a ∧ k' = k
    · rw [e.1, e.2]
      exact ⟨t, u2_eq, ht⟩
    · obtain ⟨t', q1, q2⟩ := g4 a' k' h'
      refine ⟨t', ?_, q2⟩
      show u2 σ.2.2.2.2.2 a k (some t) a' k' = some t'
      unfold u2
      split
      · next e1 =>
        split
        · next e2 => exact absurd ⟨e1, e2⟩ e
        · exact q1
      · exact q1
theorem sh_Sale0 {a : Nat} (h : isSale a) : aSHl[a]? = some (9, 9) := by
  have hh : ∀ a ∈ ([101, 147] : List Nat), aSHl[a]? = some (9, 9) := by decide +kernel
  exact hh a h
theorem sh_Sale1 {a : Nat} (h : isSale a) : aSHl[a + 1]? = some (22, 24) := by
  have hh : ∀ a ∈ ([101, 147] : List Nat), aSHl[a + 1]? = some (22, 24) := by decide +kernel
  exact hh a h
theorem sh_Sale2 {a : Nat} (h : isSale a) : aSHl[a + 2]? = some (23, 6) := by
  have hh : ∀ a ∈ ([101, 147] : List Nat), aSHl[a + 2]? = some (23, 6) := by decide +kernel
  exact hh a h
theorem sh_Sale3 {a : Nat} (h : isSale a) : aSHl[a + 3]? = some (19, 3) := by
  have hh : ∀ a ∈ ([101, 147] : List Nat), aSHl[a + 3]? = some (19, 3) := by decide +kernel
  exact hh a h
theorem sh_Tx0 {a : Nat} (h : isTx a) : aSHl[a]? = some (10, 8) := by
  have hh : ∀ a ∈ ([2, 15, 49, 58, 67, 76, 85, 94] : List Nat), aSHl[a]? = some (10, 8) := by decide +kernel
  exact hh a h
theorem sh_Tx1 {a : Nat} (h : isTx a) : aSHl[a + 1]? = some (15, 20) := by
  have hh : ∀ a ∈ ([2, 15, 49, 58, 67, 76, 85, 94] : List Nat), aSHl[a + 1]? = some (15, 20) := by decide +kernel
  exact hh a h
theorem sh_Tx2 {a : Nat} (h : isTx a) : aSHl[a + 2]? = some (15, 20) := by
  have hh : ∀ a ∈ ([2, 15, 49, 58, 67, 76, 85, 94] : List Nat), aSHl[a + 2]? = some (15, 20) := by decide +kernel
  exact hh a h
theorem sh_Tx3 {a : Nat} (h : isTx a) : aSHl[a + 3]? = some (15, 20) := by
  have hh : ∀ a ∈ ([2, 15, 49, 58, 67, 76, 85, 94] : List Nat), aSHl[a + 3]? = some (15, 20) := by decide +kernel
  exact hh a h
theorem sh_Tx4 {a : Nat} (h : isTx a) : aSHl[a + 4]? = some (15, 20) := by
  have hh : ∀ a ∈ ([2, 15, 49, 58, 67, 76, 85, 94] : List Nat), aSHl[a + 4]? = some (15, 20) := by decide +kernel
  exact hh a h
theorem sh_Tx5 {a : Nat} (h : isTx a) : aSHl[a + 5]? = some (15, 400) := by
  have hh : ∀ a ∈ ([2, 15, 49, 58, 67, 76, 85, 94] : List Nat), aSHl[a + 5]? = some (15, 400) := by decide +kernel
  exact hh a h
theorem sh_Tx6 {a : Nat} (h : isTx a) : aSHl[a + 6]? = some (15, 32) := by
  have hh : ∀ a ∈ ([2, 15, 49, 58, 67, 76, 85, 94] : List Nat), aSHl[a + 6]? = some (15, 32) := by decide +kernel
  exact hh a h
theorem sh_Pu0 {a : Nat} (h : isPu a) : aSHl[a]? = some (7, 5) := by
  have hh : ∀ a ∈ ([129, 131, 133, 135, 137, 139, 175, 177, 179, 181, 183, 185] : List Nat), aSHl[a]? = some (7, 5) := by decide +kernel
  exact hh a h
theorem sh_Pu1 {a : Nat} (h : isPu a) : aSHl[a + 1]? = some (15, 6) := by
  have hh : ∀ a ∈ ([129, 131, 133, 135, 137, 139, 175, 177, 179, 181, 183, 185] : List Nat), aSHl[a + 1]? = some (15, 6) := by decide +kernel
  exact hh a h
theorem sh_Ou0 {a : Nat} (h : isOu a) : aSHl[a]? = some (6, 8) := by
  have hh : ∀ a ∈ ([105, 106, 107, 108, 109, 110, 111, 112, 113, 114, 115, 116, 117, 118, 119, 120, 121, 122, 123, 124, 125, 126, 127, 128, 151, 152, 153, 154, 155, 156, 157, 158, 159, 160, 161, 162, 163, 164, 165, 166, 167, 168, 169, 170, 171, 172, 173, 174] : List Nat), aSHl[a]? = some (6, 8) := by decide +kernel
  exact hh a h
theorem sh_Ck0 {a : Nat} (h : isCk a) : aSHl[a]? = some (1, 5) := by
  have hh : ∀ a ∈ ([141, 143, 145, 187, 189, 191] : List Nat), aSHl[a]? = some (1, 5) := by decide +kernel
  exact hh a h
theorem sh_Ck1 {a : Nat} (h : isCk a) : aSHl[a + 1]? = some (15, 6) := by
  have hh : ∀ a ∈ ([141, 143, 145, 187, 189, 191] : List Nat), aSHl[a + 1]? = some (15, 6) := by decide +kernel
  exact hh a h
theorem sh_Lo0 {a : Nat} (h : isLo a) : aSHl[a]? = some (5, 5) := by
  have hh : ∀ a ∈ ([23, 24, 25, 26, 27, 28, 29, 30, 31, 32, 33, 34, 35, 36, 37, 38, 39, 40, 41, 42, 43, 44, 45, 46] : List Nat), aSHl[a]? = some (5, 5) := by decide +kernel
  exact hh a h
theorem sh_Bu0 {a : Nat} (h : isBu a) : aSHl[a]? = some (0, 4) := by
  have hh : ∀ a ∈ ([47, 56, 65, 74, 83, 92] : List Nat), aSHl[a]? = some (0, 4) := by decide +kernel
  exact hh a h
theorem sh_Bu1 {a : Nat} (h : isBu a) : aSHl[a + 1]? = some (15, 6) := by
  have hh : ∀ a ∈ ([47, 56, 65, 74, 83, 92] : List Nat), aSHl[a + 1]? = some (15, 6) := by decide +kernel
  exact hh a h
theorem sh_Ly0 {a : Nat} (h : isLy a) : aSHl[a]? = some (4, 6) := by
  have hh : ∀ a ∈ ([223, 225, 227, 229, 231, 233] : List Nat), aSHl[a]? = some (4, 6) := by decide +kernel
  exact hh a h
theorem sh_Ly1 {a : Nat} (h : isLy a) : aSHl[a + 1]? = some (15, 24) := by
  have hh : ∀ a ∈ ([223, 225, 227, 229, 231, 233] : List Nat), aSHl[a + 1]? = some (15, 24) := by decide +kernel
  exact hh a h
theorem gf_Sale1 {a : Nat} (h : isSale a) : (aMRl.getD a []).getD 1 none = some (a + 1) := by
  have hh : ∀ a ∈ ([101, 147] : List Nat), (aMRl.getD a []).getD 1 none = some (a + 1) := by decide +kernel
  exact hh a h
theorem gf_Sale2 {a : Nat} (h : isSale a) : (aMRl.getD a []).getD 2 none = some (a + 2) := by
  have hh : ∀ a ∈ ([101, 147] : List Nat), (aMRl.getD a []).getD 2 none = some (a + 2) := by decide +kernel
  exact hh a h
theorem gf_Sale4 {a : Nat} (h : isSale a) : (aMRl.getD a []).getD 4 none = some (a + 3) := by
  have hh : ∀ a ∈ ([101, 147] : List Nat), (aMRl.getD a []).getD 4 none = some (a + 3) := by decide +kernel
  exact hh a h
theorem gf_Tx1 {a : Nat} (h : isTx a) : (aMRl.getD a []).getD 1 none = some (a + 1) := by
  have hh : ∀ a ∈ ([2, 15, 49, 58, 67, 76, 85, 94] : List Nat), (aMRl.getD a []).getD 1 none = some (a + 1) := by decide +kernel
  exact hh a h
theorem gf_Tx2 {a : Nat} (h : isTx a) : (aMRl.getD a []).getD 2 none = some (a + 2) := by
  have hh : ∀ a ∈ ([2, 15, 49, 58, 67, 76, 85, 94] : List Nat), (aMRl.getD a []).getD 2 none = some (a + 2) := by decide +kernel
  exact hh a h
theorem gf_Tx3 {a : Nat} (h : isTx a) : (aMRl.getD a []).getD 3 none = some (a + 3) := by
  have hh : ∀ a ∈ ([2, 15, 49, 58, 67, 76, 85, 94] : List Nat), (aMRl.getD a []).getD 3 none = some (a + 3) := by decide +kernel
  exact hh a h
theorem gf_Tx4 {a : Nat} (h : isTx a) : (aMRl.getD a []).getD 4 none = some (a + 4) := by
  have hh : ∀ a ∈ ([2, 15, 49, 58, 67, 76, 85, 94] : List Nat), (aMRl.getD a []).getD 4 none = some (a + 4) := by decide +kernel
  exact hh a h
theorem gf_Tx5 {a : Nat} (h : isTx a) : (aMRl.getD a []).getD 5 none = some (a + 5) := by
  have hh : ∀ a ∈ ([2, 15, 49, 58, 67, 76, 85, 94] : List Nat), (aMRl.getD a []).getD 5 none = some (a + 5) := by decide +kernel
  exact hh a h
theorem gf_Tx7 {a : Nat} (h : isTx a) : (aMRl.getD a []).getD 7 none = some (a + 6) := by
  have hh : ∀ a ∈ ([2, 15, 49, 58, 67, 76, 85, 94] : List Nat), (aMRl.getD a []).getD 7 none = some (a + 6) := by decide +kernel
  exact hh a h
theorem gf_Pu3 {a : Nat} (h : isPu a) : (aMRl.getD a []).getD 3 none = some (a + 1) := by
  have hh : ∀ a ∈ ([129, 131, 133, 135, 137, 139, 175, 177, 179, 181, 183, 185] : List Nat), (aMRl.getD a []).getD 3 none = some (a + 1) := by decide +kernel
  exact hh a h
theorem gf_Ck4 {a : Nat} (h : isCk a) : (aMRl.getD a []).getD 4 none = some (a + 1) := by
  have hh : ∀ a ∈ ([141, 143, 145, 187, 189, 191] : List Nat), (aMRl.getD a []).getD 4 none = some (a + 1) := by decide +kernel
  exact hh a h
theorem gf_Bu2 {a : Nat} (h : isBu a) : (aMRl.getD a []).getD 2 none = some (a + 1) := by
  have hh : ∀ a ∈ ([47, 56, 65, 74, 83, 92] : List Nat), (aMRl.getD a []).getD 2 none = some (a + 1) := by decide +kernel
  exact hh a h
theorem gf_Ly4 {a : Nat} (h : isLy a) : (aMRl.getD a []).getD 4 none = some (a + 1) := by
  have hh : ∀ a ∈ ([223, 225, 227, 229, 231, 233] : List Nat), (aMRl.getD a []).getD 4 none = some (a + 1) := by decide +kernel
  exact hh a h
theorem gf_Sale0 {a : Nat} (h : isSale a) : (aMRl.getD a []).getD 0 none = some 11 := by
  have hh : ∀ a ∈ ([101, 147] : List Nat), (aMRl.getD a []).getD 0 none = some 11 := by decide +kernel
  exact hh a h
theorem el_Lo {i : Int32} (hi : ¬ (i < 0 ∨ 24 ≤ i.toNatClampNeg)) : (aMRl.getD 12 []).getD i.toNatClampNeg none = some (23 + i.toNatClampNeg) ∧ isLo (23 + i.toNatClampNeg) := by
  have hh : ∀ i < 24, (aMRl.getD 12 []).getD i none = some (23 + i) ∧ (23 + i) ∈ ([23, 24, 25, 26, 27, 28, 29, 30, 31, 32, 33, 34, 35, 36, 37, 38, 39, 40, 41, 42, 43, 44, 45, 46] : List Nat) := by decide +kernel
  exact hh _ (Nat.not_le.mp fun q => hi (Or.inr q))
theorem el_Bu {i : Int32} (hi : ¬ (i < 0 ∨ 6 ≤ i.toNatClampNeg)) : (aMRl.getD 13 []).getD i.toNatClampNeg none = some (47 + 9 * i.toNatClampNeg) ∧ isBu (47 + 9 * i.toNatClampNeg) := by
  have hh : ∀ i < 6, (aMRl.getD 13 []).getD i none = some (47 + 9 * i) ∧ (47 + 9 * i) ∈ ([47, 56, 65, 74, 83, 92] : List Nat) := by decide +kernel
  exact hh _ (Nat.not_le.mp fun q => hi (Or.inr q))
theorem el_Ly {i : Int32} (hi : ¬ (i < 0 ∨ 6 ≤ i.toNatClampNeg)) : (aMRl.getD 222 []).getD i.toNatClampNeg none = some (223 + 2 * i.toNatClampNeg) ∧ isLy (223 + 2 * i.toNatClampNeg) := by
  have hh : ∀ i < 6, (aMRl.getD 222 []).getD i none = some (223 + 2 * i) ∧ (223 + 2 * i) ∈ ([223, 225, 227, 229, 231, 233] : List Nat) := by decide +kernel
  exact hh _ (Nat.not_le.mp fun q => hi (Or.inr q))
theorem el_Fw {i : Int32} (hi : ¬ (i < 0 ∨ 25 ≤ i.toNatClampNeg)) : (aMRl.getD 196 []).getD i.toNatClampNeg none = some (197 + i.toNatClampNeg) ∧ aSHl[197 + i.toNatClampNeg]? = some (15, 61) := by
  have hh : ∀ i < 25, (aMRl.getD 196 []).getD i none = some (197 + i) ∧ aSHl[197 + i]? = some (15, 61) := by decide +kernel
  exact hh _ (Nat.not_le.mp fun q => hi (Or.inr q))
theorem el_Ou {s : Nat} (hs : isSale s) {i : Int32} (hi : ¬ (i < 0 ∨ 24 ≤ i.toNatClampNeg)) : (aMRl.getD (s + 1) []).getD i.toNatClampNeg none = some (s + 4 + i.toNatClampNeg) ∧ isOu (s + 4 + i.toNatClampNeg) := by
  have hh : ∀ s ∈ ([101, 147] : List Nat), ∀ i < 24, (aMRl.getD (s + 1) []).getD i none = some (s + 4 + i) ∧ (s + 4 + i) ∈ ([105, 106, 107, 108, 109, 110, 111, 112, 113, 114, 115, 116, 117, 118, 119, 120, 121, 122, 123, 124, 125, 126, 127, 128, 151, 152, 153, 154, 155, 156, 157, 158, 159, 160, 161, 162, 163, 164, 165, 166, 167, 168, 169, 170, 171, 172, 173, 174] : List Nat) := by decide +kernel
  exact hh s hs _ (Nat.not_le.mp fun q => hi (Or.inr q))
theorem el_Pu {s : Nat} (hs : isSale s) {i : Int32} (hi : ¬ (i < 0 ∨ 6 ≤ i.toNatClampNeg)) : (aMRl.getD (s + 2) []).getD i.toNatClampNeg none = some (s + 28 + 2 * i.toNatClampNeg) ∧ isPu (s + 28 + 2 * i.toNatClampNeg) := by
  have hh : ∀ s ∈ ([101, 147] : List Nat), ∀ i < 6, (aMRl.getD (s + 2) []).getD i none = some (s + 28 + 2 * i) ∧ (s + 28 + 2 * i) ∈ ([129, 131, 133, 135, 137, 139, 175, 177, 179, 181, 183, 185] : List Nat) := by decide +kernel
  exact hh s hs _ (Nat.not_le.mp fun q => hi (Or.inr q))
theorem el_Ck {s : Nat} (hs : isSale s) {i : Int32} (hi : ¬ (i < 0 ∨ 3 ≤ i.toNatClampNeg)) : (aMRl.getD (s + 3) []).getD i.toNatClampNeg none = some (s + 40 + 2 * i.toNatClampNeg) ∧ isCk (s + 40 + 2 * i.toNatClampNeg) := by
  have hh : ∀ s ∈ ([101, 147] : List Nat), ∀ i < 3, (aMRl.getD (s + 3) []).getD i none = some (s + 40 + 2 * i) ∧ (s + 40 + 2 * i) ∈ ([141, 143, 145, 187, 189, 191] : List Nat) := by decide +kernel
  exact hh s hs _ (Nat.not_le.mp fun q => hi (Or.inr q))
theorem tx_Bu {a : Nat} (h : isBu a) : (a, 3) ∈ aTXl := by
  have hh : ∀ a ∈ ([47, 56, 65, 74, 83, 92] : List Nat), (a, 3) ∈ aTXl := by decide +kernel
  exact hh a h
theorem txn_Bu {a : Nat} (h : isBu a) : (aMRl.getD a []).getD 3 none = none := by
  have hh : ∀ a ∈ ([47, 56, 65, 74, 83, 92] : List Nat), (aMRl.getD a []).getD 3 none = none := by decide +kernel
  exact hh a h
theorem sale_day : isSale 101 := by
  show 101 ∈ [101, 147]
  decide
theorem sale_trial : isSale 147 := by
  show 147 ∈ [101, 147]
  decide
