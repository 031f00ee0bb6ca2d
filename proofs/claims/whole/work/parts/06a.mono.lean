/-! ===== more fuel, another script: the constructors' runs stay ===== -/
def aMo (S : List Nat) (stp : aStp) : Prop := ∀ (c c' : aC) (k k' : aK), (∀ j as σ q, j ∈ S → c j as σ = some q → c' j as σ = some q) → (∀ pc ls st σ q, k pc ls st σ = some q → k' pc ls st σ = some q) → ∀ ls st σ q, stp c k ls st σ = some q → stp c' k' ls st σ = some q
section MO
variable {S : List Nat}
theorem pI_mo {st : List Value} {f g : Int32 → List Value → aR} {q : Option Value × aSt} (hf : ∀ x r, f x r = some q → g x r = some q) (h : pI st f = some q) : pI st g = some q := by
  obtain ⟨x, r, rfl, h⟩ := pI_inv h
  exact hf x r h
theorem pJ_mo {st : List Value} {f g : Int64 → List Value → aR} {q : Option Value × aSt} (hf : ∀ x r, f x r = some q → g x r = some q) (h : pJ st f = some q) : pJ st g = some q := by
  obtain ⟨x, r, rfl, h⟩ := pJ_inv h
  exact hf x r h
theorem pR_mo {st : List Value} {f g : Nat → List Value → aR} {q : Option Value × aSt} (hf : ∀ x r, f x r = some q → g x r = some q) (h : pR st f = some q) : pR st g = some q := by
  obtain ⟨x, r, rfl, h⟩ := pR_inv h
  exact hf x r h
theorem pA_mo {st : List Value} {f g : Value → List Value → aR} {q : Option Value × aSt} (hf : ∀ x r, f x r = some q → g x r = some q) (h : pA st f = some q) : pA st g = some q := by
  unfold pA at h ⊢
  split at h <;> first | exact hf _ _ h | cases h
theorem pV_mo {st : List Value} {f g : Value → List Value → aR} {q : Option Value × aSt} (hf : ∀ x r, f x r = some q → g x r = some q) (h : pV st f = some q) : pV st g = some q := by
  unfold pV at h ⊢
  split at h <;> first | exact hf _ _ h | cases h
theorem cIf_mo {c : Prop} [Decidable c] {x y : aR} {q : Option Value × aSt} (hf : x = some q → y = some q) (h : cIf c x = some q) : cIf c y = some q := by
  obtain ⟨hc, h⟩ := cIf_inv h
  unfold cIf
  rw [if_pos hc]
  exact hf h
theorem ite_mo {c : Prop} [Decidable c] {x y x' y' : aR} {q : Option Value × aSt} (h1 : x = some q → x' = some q) (h2 : y = some q → y' = some q) (h : (if c then x else y) = some q) : (if c then x' else y') = some q := by
  split at h
  · next hc => rw [if_pos hc]; exact h1 h
  · next hc => rw [if_neg hc]; exact h2 h
theorem aRet_mo {x y : aR} {f g : Option Value → aSt → aR} {q : Option Value × aSt} (h1 : ∀ q', x = some q' → y = some q') (h2 : ∀ v σ, f v σ = some q → g v σ = some q) (h : aRet x f = some q) : aRet y g = some q := by
  obtain ⟨v, σ, hx, hf⟩ := aRet_inv h
  rw [h1 _ hx]
  exact h2 v σ hf
theorem mo_No : aMo S oNo := fun c c' k k' hc hk ls st σ q h => by cases h
theorem mo_Push {v : Value} {p : Nat} : aMo S (oPush v p) := fun c c' k k' hc hk ls st σ q h => hk _ _ _ _ _ h
theorem mo_Goto {p : Nat} : aMo S (oGoto p) := fun c c' k k' hc hk ls st σ q h => hk _ _ _ _ _ h
theorem mo_Iload {i p : Nat} : aMo S (oIload i p) := fun c c' k k' hc hk ls st σ q h => pI_mo (fun _ _ h => hk _ _ _ _ _ h) h
theorem mo_Lload {i p : Nat} : aMo S (oLload i p) := fun c c' k k' hc hk ls st σ q h => pJ_mo (fun _ _ h => hk _ _ _ _ _ h) h
theorem mo_Aload {i p : Nat} : aMo S (oAload i p) := fun c c' k k' hc hk ls st σ q h => pA_mo (fun _ _ h => hk _ _ _ _ _ h) h
theorem mo_Istore {i p : Nat} : aMo S (oIstore i p) := fun c c' k k' hc hk ls st σ q h => pI_mo (fun _ _ h => cIf_mo (fun h => hk _ _ _ _ _ h) h) h
theorem mo_Iinc {i p : Nat} {d : Int32} : aMo S (oIinc i d p) := fun c c' k k' hc hk ls st σ q h => pI_mo (fun _ _ h => cIf_mo (fun h => hk _ _ _ _ _ h) h) h
theorem mo_Bin {f : Int32 → Int32 → Int32} {p : Nat} : aMo S (oBin f p) := fun c c' k k' hc hk ls st σ q h => pI_mo (fun _ _ h => pI_mo (fun _ _ h => hk _ _ _ _ _ h) h) h
theorem mo_BinL {f : Int64 → Int64 → Int64} {p : Nat} : aMo S (oBinL f p) := fun c c' k k' hc hk ls st σ q h => pJ_mo (fun _ _ h => pJ_mo (fun _ _ h => hk _ _ _ _ _ h) h) h
theorem mo_I2l {p : Nat} : aMo S (oI2l p) := fun c c' k k' hc hk ls st σ q h => pI_mo (fun _ _ h => hk _ _ _ _ _ h) h
theorem mo_Dup {p : Nat} : aMo S (oDup p) := fun c c' k k' hc hk ls st σ q h => pV_mo (fun _ _ h => hk _ _ _ _ _ h) h
theorem mo_Ifne {t p : Nat} : aMo S (oIfne t p) := fun c c' k k' hc hk ls st σ q h => pI_mo (fun _ _ h => ite_mo (fun h => hk _ _ _ _ _ h) (fun h => hk _ _ _ _ _ h) h) h
theorem mo_Ifeq {t p : Nat} : aMo S (oIfeq t p) := fun c c' k k' hc hk ls st σ q h => pI_mo (fun _ _ h => ite_mo (fun h => hk _ _ _ _ _ h) (fun h => hk _ _ _ _ _ h) h) h
theorem mo_Cge {t p : Nat} : aMo S (oCge t p) := fun c c' k k' hc hk ls st σ q h => pI_mo (fun _ _ h => pI_mo (fun _ _ h => ite_mo (fun h => hk _ _ _ _ _ h) (fun h => hk _ _ _ _ _ h) h) h) h
theorem mo_Cne {t p : Nat} : aMo S (oCne t p) := fun c c' k k' hc hk ls st σ q h => pI_mo (fun _ _ h => pI_mo (fun _ _ h => ite_mo (fun h => hk _ _ _ _ _ h) (fun h => hk _ _ _ _ _ h) h) h) h
theorem mo_PutI {ci f p : Nat} : aMo S (oPutI ci f p) := fun c c' k k' hc hk ls st σ q h => pI_mo (fun _ _ h => pR_mo (fun _ _ h => cIf_mo (fun h => hk _ _ _ _ _ h) h) h) h
theorem mo_PutR {ci f p : Nat} : aMo S (oPutR ci f p) := fun c c' k k' hc hk ls st σ q h => pR_mo (fun _ _ h => pR_mo (fun _ _ h => cIf_mo (fun h => hk _ _ _ _ _ h) h) h) h
theorem mo_GetR {ci f p : Nat} : aMo S (oGetR ci f p) := fun c c' k k' hc hk ls st σ q h => pR_mo (fun a r h => cIf_mo (fun h => by
  split at h
  · next b hb => exact hk _ _ _ _ _ h
  · next hb => exact hk _ _ _ _ _ h) h) h
theorem mo_AstJ {p : Nat} : aMo S (oAstJ p) := fun c c' k k' hc hk ls st σ q h => pJ_mo (fun _ _ h => pI_mo (fun _ _ h => pR_mo (fun _ _ h => cIf_mo (fun h => hk _ _ _ _ _ h) h) h) h) h
theorem mo_AstR {kd ci p : Nat} : aMo S (oAstR kd ci p) := fun c c' k k' hc hk ls st σ q h => pR_mo (fun _ _ h => pI_mo (fun _ _ h => pR_mo (fun _ _ h => cIf_mo (fun h => hk _ _ _ _ _ h) h) h) h) h
theorem mo_NewO {ci n p : Nat} : aMo S (oNewO ci n p) := fun c c' k k' hc hk ls st σ q h => hk _ _ _ _ _ h
theorem mo_NewA {kd p : Nat} : aMo S (oNewA kd p) := fun c c' k k' hc hk ls st σ q h => pI_mo (fun _ _ h => cIf_mo (fun h => hk _ _ _ _ _ h) h) h
theorem mo_Mul {p : Nat} : aMo S (oMul p) := fun c c' k k' hc hk ls st σ q h => pI_mo (fun _ _ h => pI_mo (fun _ _ h => cIf_mo (fun h => hk _ _ _ _ _ h) h) h) h
theorem mo_Obj {p : Nat} : aMo S (oObj p) := fun c c' k k' hc hk ls st σ q h => pR_mo (fun _ _ h => cIf_mo (fun h => hk _ _ _ _ _ h) h) h
theorem mo_RetV : aMo S oRetV := fun c c' k k' hc hk ls st σ q h => h
theorem mo_RetL : aMo S oRetL := fun c c' k k' hc hk ls st σ q h => h
theorem mo_CallI {j na p : Nat} (hj : j ∈ S) : aMo S (oCallI j na p) := fun c c' k k' hc hk ls st σ q h => pR_mo (fun _ _ h => cIf_mo (fun h => aRet_mo (fun _ h => hc _ _ _ _ hj h) (fun _ _ h => hk _ _ _ _ _ h) h) h) h
theorem mo_CallS {j na p : Nat} (hj : j ∈ S) : aMo S (oCallS j na p) := fun c c' k k' hc hk ls st σ q h => cIf_mo (fun h => aRet_mo (fun _ h => hc _ _ _ _ hj h) (fun _ _ h => hk _ _ _ _ _ h) h) h
theorem mo_at {t : List aStp} (h : ∀ o ∈ t, aMo S o) (pc : Nat) : aMo S (t.getD pc oNo) := by
  rw [List.getD_eq_getElem?_getD]
  cases e : t[pc]? with
  | none => exact mo_No
  | some o => exact h o (List.mem_of_getElem? e)
theorem aEx_sim {P P' : Nat → Nat → aStp} {ml : Nat → Nat} (hP : ∀ j ∈ S, ∀ pc, aMo S (P j pc)) (hPP : ∀ j ∈ S, ∀ pc, P' j pc = P j pc) : ∀ (n m : Nat), n ≤ m → ∀ j ∈ S, ∀ (pc : Nat) (ls st : List Value) (σ : aSt) (q : Option Value × aSt), aEx P ml n j pc ls st σ = some q → aEx P' ml m j pc ls st σ = some q
  | 0, _, _, _, _, _, _, _, _, _, h => by cases h
  | n + 1, 0, hm, _, _, _, _, _, _, _, _ => by omega
  | n + 1, m + 1, hm, j, hj, pc, ls, st, σ, q, h => by
    show P' j pc _ _ ls st σ = some q
    rw [hPP j hj pc]
    refine hP j hj pc _ _ _ _ (fun j' as σ' q' hj' h' => ?_) (fun pc' ls' st' σ' q' h' => aEx_sim hP hPP n m (by omega) j hj pc' ls' st' σ' q' h') ls st σ q h
    obtain ⟨h1, h2⟩ := cIf_inv h'
    exact ev_cif h1 (aEx_sim hP hPP n m (by omega) j' hj' 0 _ [] σ' _ h2)
end MO
