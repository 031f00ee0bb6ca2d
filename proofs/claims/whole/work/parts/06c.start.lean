def aBoot1 : Bool := match aRun (fun _ => 0) 0 3000 93 0 (aEnt (aML 93) [.ref 0]) [] (aNew aS0' 11 9) with
  | some (none, σ1) => σ1.1 == 235
  | _ => false
theorem aBoot1_ok : aBoot1 = true := by decide +kernel
theorem aBoot_one {σ1 : aSt} (h : aRun (fun _ => 0) 0 3000 93 0 (aEnt (aML 93) [.ref 0]) [] (aNew aS0' 11 9) = some (none, σ1)) : σ1.1 = 235 := by
  have h1 := aBoot1_ok
  unfold aBoot1 at h1
  rw [h] at h1
  exact beq_iff_eq.mp h1
/-- what the small cells hold behind the constructors -/
def In0 (σ : aSt) : Prop := (∀ a ∈ aSm, ∀ k, k < (aSHl.getD a (0, 0)).2 → aI σ a k = aI0 a k) ∧ ∀ k, k < 16 → aJ σ 242 k = aKy.getD k 0
theorem aChk_gr {σ : aSt} (h : aChk σ = true) : Gr σ ∧ In0 σ := by
  unfold aChk at h
  simp only [Bool.and_eq_true, beq_iff_eq, List.all_eq_true, List.mem_range] at h
  obtain ⟨h1, h2, h3, h4, h5, h6, h7⟩ := h
  have hsh : ∀ a, a < 297 → aSHl[a]? = some (aH σ a) := h3
  refine ⟨⟨h1, fun a q hq => ?_, fun a k b hb => ?_, fun a k hk => ?_, h2⟩, fun a ha k hk => ?_, h7⟩
  · have ha : a < 297 := by rw [← aSHl_len]; exact (List.getElem?_eq_some_iff.mp hq).1
    have := hsh a ha
    rw [hq] at this
    exact (Option.some.inj this).symm
  · by_cases ha : a < 297
    · by_cases hk : k < (aMRl.getD a []).length
      · have := h4 a ha k hk
        rw [hb] at this
        simpa using this
      · rw [List.getD_eq_getElem?_getD (i := k), List.getElem?_eq_none (by omega)] at hb
        cases hb
    · have hl : aMRl.length = 297 := by decide +kernel
      rw [List.getD_eq_getElem?_getD (i := a), List.getElem?_eq_none (by omega)] at hb
      simp at hb
  · have := h5 (a, k) hk
    cases e : aP σ a k with
    | none => simp only [e] at this; cases this
    | some t =>
      simp only [e] at this
      exact ⟨t, rfl, (of_decide_eq_true this : t ∈ [2, 15, 49, 58, 67, 76, 85, 94])⟩
  · refine h6 a ha k ?_
    have hal : ∀ a ∈ aSm, a < 297 := by decide +kernel
    have := hsh a (hal a ha)
    rw [List.getD_eq_getElem?_getD, this] at hk
    exact hk
theorem aStart : ∃ σ1 σ2 : aSt, (∀ (xs : Nat → Int32) (L : Nat), Cal xs L 93 [.ref 0] (aNew aS0' 11 9) none σ1 ∧ Cal xs L 117 [.ref 235] (aNew σ1 12 80) none σ2) ∧ σ1.1 = 235 ∧ Gr σ2 ∧ In0 σ2 := by
  have h := aBoot_ok
  unfold aBootOK at h
  cases e : aBoot with
  | none => rw [e] at h; cases h
  | some σ2 =>
    rw [e] at h
    have hg := aChk_gr h
    unfold aBoot at e
    split at e
    · next σ1 h1 =>
      split at e
      · next σ2' h2 =>
        cases e
        refine ⟨σ1, σ2, fun xs L => ⟨aCS_ev (by decide) h1, aCS_ev (by decide) h2⟩, ?_, hg⟩

        exact aBoot_one h1
      · cases e
    · cases e
