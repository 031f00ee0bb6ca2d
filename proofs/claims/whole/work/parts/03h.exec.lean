/-! ===== a run of the small machine is a run of the real one ===== -/
section EXS
variable {G : aGl}
theorem aEn_args (hs : ∀ u : Nat, (∃ a : Nat, G.2.2.2.1 u = .ref a) ∨ G.2.2.2.1 u = .null) : ∀ (as : List Value) (k i : Nat) (v : Value), (aEn as)[i]? = some v → aOk v → (k + i, aT G v) ∈ lv_args k (as.map (aT G))
  | [], k, i, v, h, _ => by simp [aEn] at h
  | x :: r, k, i, v, h, hv => by
    have hone : ∀ y : Value, y.category = 1 → aEn (y :: r) = y :: aEn r → (aEn (y :: r))[i]? = some v → (k + i, aT G v) ∈ lv_args k ((y :: r).map (aT G)) := by
      intro y hy e h
      have hc : ¬ (aT G y).category = 2 := by rw [aT_cat hs, hy]; omega
      rw [e] at h
      rw [List.map_cons]
      unfold lv_args
      rw [if_neg hc]
      cases i with
      | zero =>
        simp only [List.getElem?_cons_zero, Option.some.injEq] at h
        subst h
        exact List.mem_cons_self
      | succ i =>
        rw [List.getElem?_cons_succ] at h
        have := aEn_args hs r (k + 1) i v h hv
        rw [show k + (i + 1) = k + 1 + i by omega]
        exact List.mem_cons_of_mem _ this
    have htwo : ∀ y z : Value, y.category = 2 → (z = y ∨ z = aU) → aEn (y :: r) = z :: aU :: aEn r → (aEn (y :: r))[i]? = some v → (k + i, aT G v) ∈ lv_args k ((y :: r).map (aT G)) := by
      intro y z hy hz e h
      have hc : (aT G y).category = 2 := by rw [aT_cat hs, hy]
      rw [e] at h
      rw [List.map_cons]
      unfold lv_args
      rw [if_pos hc]
      match i, h with
      | 0, h =>
        simp only [List.getElem?_cons_zero, Option.some.injEq] at h
        subst h
        rcases hz with rfl | rfl
        · exact List.mem_cons_self
        · exact absurd hv (by simp [aU, aOk])
      | 1, h =>
        simp only [List.getElem?_cons_succ, List.getElem?_cons_zero, Option.some.injEq] at h
        subst h
        exact absurd hv (by simp [aU, aOk])
      | i + 2, h =>
        simp only [List.getElem?_cons_succ] at h
        have := aEn_args hs r (k + 2) i v h hv
        rw [show k + (i + 2) = k + 2 + i by omega]
        exact List.mem_cons_of_mem _ this
    cases x with
    | int y => exact hone _ rfl rfl h
    | long y => exact htwo _ _ rfl (Or.inl rfl) rfl h
    | float y => exact hone _ rfl rfl h
    | double y => exact htwo _ _ rfl (Or.inr rfl) rfl h
    | ref y => exact hone _ rfl rfl h
    | null => exact hone _ rfl rfl h
    | _ => exact hone _ rfl rfl h
theorem aEn_len (hs : ∀ u : Nat, (∃ a : Nat, G.2.2.2.1 u = .ref a) ∨ G.2.2.2.1 u = .null) : ∀ as : List Value, (lg_sl (as.map (aT G))).length = (aEn as).length
  | [] => rfl
  | x :: r => by
    have ih := aEn_len hs r
    have key : (lg_sl ((x :: r).map (aT G))).length = (if x.category = 2 then 2 else 1) + (lg_sl (r.map (aT G))).length := by
      rw [List.map_cons]
      unfold lg_sl
      rw [List.flatMap_cons, List.length_append, aT_cat hs]
      congr 1
      split <;> rfl
    rw [key, ih]
    cases x <;> simp [aEn, Value.category] <;> omega
theorem aMet_of {M : aMI} {as : List Value} {σ : aSt} {v : Option Value} {σ' : aSt} (hcls : M.1.cls = M.2.2.2.2.2.2) (hy : plainFor M.1 = true) (hlen : (aEn as).length ≤ M.2.2.1) (h : aPP G M 0 (aEnt M.2.2.1 as) [] σ v σ') : aMet G M as σ v σ' := by
  obtain ⟨hg, hw⟩ := h
  refine ⟨hg, fun l => ?_⟩
  refine va_MetF (cc := M.2.1) (maxL := M.2.2.1) (ret := M.2.2.2.1) hy rfl ?_
  intro p e s m args below meth c s₁ B hml hPc
  obtain ⟨rfl, hK, hP, hz⟩ := hPc
  have hts := atoms_spec (ws := Cond.code M.1 M.2.1 M.2.2.1 M.2.2.2.1 :: aTT) B.pre
  have C : aCx M p (aRm M σ σ') s m (as.map (aT G)).toArray meth c := ⟨B.exec, B.bytes, B.returns, hml, by rw [← hcls]; exact findClass_of_methodNamed B.named, fun w hw => hts w (List.mem_cons_of_mem _ hw), B.notSynchronized, fun hi => (name_of_methodNamed B.named B.method).1.trans hi, Nat.le_refl _, Nat.le_refl _⟩
  have hl := lv_entry (as.map (aT G)) (n := M.2.2.1) (by rw [aEn_len hK.1.2.2.2.2]; exact hlen)
  rw [lg_entry_eq]
  refine hw p l e _ s m _ below meth c s.heap [] 0 0 _ _ _ C hK (by omega) ⟨hP, by omega, va_S.rf, by have := hg.1; omega, by have := hg.2; omega, Nat.le_refl _, Nat.le_refl _⟩ ⟨?_, _, hl, ?_⟩
  · unfold aEnt
    rw [List.length_append, List.length_replicate]
    omega
  · intro i w hi hw
    unfold aEnt at hi
    by_cases hlt : i < (aEn as).length
    · rw [List.getElem?_append_left hlt] at hi
      have := aEn_args hK.1.2.2.2.2 as 0 i w hi hw
      rw [Nat.zero_add] at this
      exact this
    · rw [List.getElem?_append_right (by omega)] at hi
      have hm := List.mem_of_getElem? hi
      rw [(List.mem_replicate.mp hm).2] at hw
      exact absurd hw (by simp [aU, aOk])
theorem aEx_snd {P : Nat → Nat → aStp} {ml : Nat → Nat} (hP : ∀ j pc, aSnd G (aM j) pc (P j pc)) (hml : ∀ j, ml j = (aM j).2.2.1) (hcls : ∀ j, (aM j).1.cls = (aM j).2.2.2.2.2.2) (hy : ∀ j, plainFor (aM j).1 = true) : ∀ (n j pc : Nat) (ls st : List Value) (σ : aSt) (v : Option Value) (σ' : aSt), aEx P ml n j pc ls st σ = some (v, σ') → aPP G (aM j) pc ls st σ v σ'
  | 0, j, pc, ls, st, σ, v, σ', h => by cases h
  | n + 1, j, pc, ls, st, σ, v, σ', h => by
    refine hP j pc _ _ (fun j' as σ1 v1 σ2 h1 => ?_) (fun pc' ls' st' σ1 v1 σ2 h1 => aEx_snd hP hml hcls hy n j pc' ls' st' σ1 v1 σ2 h1) ls st σ v σ' h
    obtain ⟨hlen, h2⟩ := cIf_inv h1
    rw [hml] at hlen h2
    exact aMet_of (hcls j') (hy j') hlen (aEx_snd hP hml hcls hy n j' 0 _ [] σ1 v1 σ2 h2)
end EXS
