/-! ===== each step of the small machine is one of the real one: fields, arrays, new cells ===== -/
section HP
variable {G : aGl} {M : aMI} {pc : Nat}
theorem aE_obj {σ : aSt} {a ci : Nat} (h1 : (aH σ a).1 = ci) (h2 : ci < 13) : aE G σ a = .inr (ci, aFv G σ ci a) := by
  unfold aE
  rw [h1, if_pos h2]
theorem aE_int {σ : aSt} {a kd : Nat} (h1 : (aH σ a).1 = kd) (h2 : 12 < kd) (h3 : kd ≠ 16) (h4 : kd < 18) : aE G σ a = .inl (G.2.2.1 kd, (aH σ a).2, .inl (fun j => aI σ a j)) := by
  unfold aE
  rw [h1, if_neg (by omega), if_neg h3, if_pos h4]
theorem aE_lng {σ : aSt} {a : Nat} (h1 : (aH σ a).1 = 16) : aE G σ a = .inl (G.2.2.1 16, (aH σ a).2, .inr (.inl (fun j => aJ σ a j))) := by
  unfold aE
  rw [h1, if_neg (by omega), if_pos rfl]
theorem aE_ref {σ : aSt} {a kd : Nat} (h1 : (aH σ a).1 = kd) (h2 : 17 < kd) : aE G σ a = .inl (G.2.2.1 kd, (aH σ a).2, .inr (.inr (.inr (.inr (fun j => aRf G (aP σ a j)))))) := by
  unfold aE
  rw [h1, if_neg (by omega), if_neg (by omega), if_neg (by omega)]
theorem aFv_len {σ : aSt} {ci a : Nat} : (aFv G σ ci a).length = (aFl ci).length := by simp [aFv]
theorem aFv_int {σ : aSt} {ci a f : Nat} (h : (aFl ci)[f]? = some false) : (aFv G σ ci a)[f]? = some (.int (aI σ a f)) := by
  have hl : f < (aFl ci).length := (List.getElem?_eq_some_iff.mp h).1
  unfold aFv
  rw [List.getElem?_map, List.getElem?_range hl]
  simp [List.getD_eq_getElem?_getD, h]
theorem aFv_ref {σ : aSt} {ci a f : Nat} (h : (aFl ci)[f]? = some true) : (aFv G σ ci a)[f]? = some (va_rf (aRf G (aP σ a f))) := by
  have hl : f < (aFl ci).length := (List.getElem?_eq_some_iff.mp h).1
  unfold aFv
  rw [List.getElem?_map, List.getElem?_range hl]
  simp [List.getD_eq_getElem?_getD, h]
theorem u2_ne {α : Type} {f : Nat → Nat → α} {a k b j : Nat} {v : α} (h : b ≠ a) : u2 f a k v b j = f b j := by simp [u2, h]
theorem u2_eq {α : Type} {f : Nat → Nat → α} {a k : Nat} {v : α} : u2 f a k v a k = v := by simp [u2]
theorem u2_nk {α : Type} {f : Nat → Nat → α} {a k b j : Nat} {v : α} (h : j ≠ k) : u2 f a k v b j = f b j := by simp [u2, h]
theorem aFv_setI {σ : aSt} {ci a f : Nat} {v : Int32} (h : (aFl ci)[f]? = some false) : (aFv G σ ci a).set f (.int v) = aFv G (aWI σ a f v) ci a := by
  have hl : f < (aFl ci).length := (List.getElem?_eq_some_iff.mp h).1
  apply List.ext_getElem?
  intro i
  rw [List.getElem?_set]
  by_cases hi : f = i
  · subst hi
    rw [if_pos rfl, if_pos (by rw [aFv_len]; exact hl), aFv_int h]
    show some (Value.int v) = some (Value.int (u2 σ.2.2.2.1 a f v a f))
    rw [u2_eq]
  · rw [if_neg hi]
    unfold aFv
    rw [List.getElem?_map, List.getElem?_map]
    by_cases hl2 : i < (aFl ci).length
    · rw [List.getElem?_range hl2]
      simp only [Option.map_some]
      rw [show (aI (aWI σ a f v) a i) = aI σ a i from u2_nk (fun e => hi e.symm)]
    · rw [List.getElem?_eq_none (by simp; omega)]
      rfl
theorem aFv_setP {σ : aSt} {ci a f : Nat} {b : Option Nat} (h : (aFl ci)[f]? = some true) : (aFv G σ ci a).set f (va_rf (aRf G b)) = aFv G (aWP σ a f b) ci a := by
  have hl : f < (aFl ci).length := (List.getElem?_eq_some_iff.mp h).1
  apply List.ext_getElem?
  intro i
  rw [List.getElem?_set]
  by_cases hi : f = i
  · subst hi
    rw [if_pos rfl, if_pos (by rw [aFv_len]; exact hl), aFv_ref h]
    show some (va_rf (aRf G b)) = some (va_rf (aRf G (u2 σ.2.2.2.2.2 a f b a f)))
    rw [u2_eq]
  · rw [if_neg hi]
    unfold aFv
    rw [List.getElem?_map, List.getElem?_map]
    by_cases hl2 : i < (aFl ci).length
    · rw [List.getElem?_range hl2]
      simp only [Option.map_some]
      rw [show (aP (aWP σ a f b) a i) = aP σ a i from u2_nk (fun e => hi e.symm)]
    · rw [List.getElem?_eq_none (by simp; omega)]
      rfl
theorem aE_congr {σ σ' : aSt} {b : Nat} (h1 : aH σ' b = aH σ b) (h2 : ∀ j, aI σ' b j = aI σ b j) (h3 : ∀ j, aJ σ' b j = aJ σ b j) (h4 : ∀ j, aP σ' b j = aP σ b j) : aE G σ' b = aE G σ b := by
  unfold aE aFv
  rw [h1]
  simp only [h2, h3, h4]
theorem aE_neI {σ : aSt} {a f b : Nat} {v : Int32} (h : b ≠ a) : aE G (aWI σ a f v) b = aE G σ b := aE_congr rfl (fun _ => u2_ne h) (fun _ => rfl) (fun _ => rfl)
theorem aE_neJ {σ : aSt} {a f b : Nat} {v : Int64} (h : b ≠ a) : aE G (aWJ σ a f v) b = aE G σ b := aE_congr rfl (fun _ => rfl) (fun _ => u2_ne h) (fun _ => rfl)
theorem aE_neP {σ : aSt} {a f b : Nat} {v : Option Nat} (h : b ≠ a) : aE G (aWP σ a f v) b = aE G σ b := aE_congr rfl (fun _ => rfl) (fun _ => rfl) (fun _ => u2_ne h)
theorem sd_getI {ci : Nat} {C : String} {T : u_T} {N : Nat} {ty : Nat → FieldType} (hcl : aClOK ci C T N ty) (f : Nat) (hf : f < N) (hfl : (aFl ci)[f]? = some false) {index : Nat} (hlink : Cond.fieldLink M.2.2.2.2.2.2 index (T f).1 (T f).2.1 (T f).2.2.1 ∈ aTT) (hd : decode M.2.1 pc = .ok (.getfield index, 3)) : aSnd G M pc (oGetI ci f (pc + 3)) := by
  intro call k hc hk ls st σ v σ' h
  obtain ⟨a, r, rfl, h_1⟩ := pR_inv h
  obtain ⟨⟨ha, hkd⟩, h_2⟩ := cIf_inv h_1
  refine aPP_sk (hk _ _ _ _ _ _ h_2) (fun p l e R s m args below meth c H locs cells slots mc ms Q real C hK hB hDy hl hw => ?_)
  obtain ⟨c1, c2, c3, c4, c5, c6⟩ := hcl
  exact va_get C.1 C.2.1 C.2.2.2.2.2.1 c4 C.2.2.2.2.1 hK.1.1 hDy.1 a (by rw [aW_get ha, aE_obj hkd c3]) c1 f hf (C.2.2.2.2.2.1 _ hlink) (fun _ h => h) (aFv_int hfl) hd hw
theorem sd_getR {ci : Nat} {C : String} {T : u_T} {N : Nat} {ty : Nat → FieldType} (hcl : aClOK ci C T N ty) (f : Nat) (hf : f < N) (hfl : (aFl ci)[f]? = some true) {index : Nat} (hlink : Cond.fieldLink M.2.2.2.2.2.2 index (T f).1 (T f).2.1 (T f).2.2.1 ∈ aTT) (hd : decode M.2.1 pc = .ok (.getfield index, 3)) : aSnd G M pc (oGetR ci f (pc + 3)) := by
  intro call k hc hk ls st σ v σ' h
  obtain ⟨a, r, rfl, h_1⟩ := pR_inv h
  obtain ⟨⟨ha, hkd⟩, h_2⟩ := cIf_inv h_1
  obtain ⟨c1, c2, c3, c4, c5, c6⟩ := hcl
  split at h_2
  · next b hb =>
    refine aPP_sk (hk _ _ _ _ _ _ h_2) (fun p l e R s m args below meth c H locs cells slots mc ms Q real C hK hB hDy hl hw => ?_)
    exact va_get C.1 C.2.1 C.2.2.2.2.2.1 c4 C.2.2.2.2.1 hK.1.1 hDy.1 a (by rw [aW_get ha, aE_obj hkd c3]) c1 f hf (C.2.2.2.2.2.1 _ hlink) (fun _ h => h) (by rw [aFv_ref hfl, hb]; rfl) hd hw
  · next hb =>
    refine aPP_sk (hk _ _ _ _ _ _ h_2) (fun p l e R s m args below meth c H locs cells slots mc ms Q real C hK hB hDy hl hw => ?_)
    exact va_get C.1 C.2.1 C.2.2.2.2.2.1 c4 C.2.2.2.2.1 hK.1.1 hDy.1 a (by rw [aW_get ha, aE_obj hkd c3]) c1 f hf (C.2.2.2.2.2.1 _ hlink) (fun _ h => h) (by rw [aFv_ref hfl, hb]; rfl) hd hw
theorem sd_putI {ci : Nat} {C : String} {T : u_T} {N : Nat} {ty : Nat → FieldType} (hcl : aClOK ci C T N ty) (f : Nat) (hf : f < N) (hfl : (aFl ci)[f]? = some false) (hfin : (T f).2.2.2 = false) (hty : ty f = .int) {index : Nat} (hlink : Cond.fieldLink M.2.2.2.2.2.2 index (T f).1 (T f).2.1 (T f).2.2.1 ∈ aTT) (hd : decode M.2.1 pc = .ok (.putfield index, 3)) : aSnd G M pc (oPutI ci f (pc + 3)) := by
  intro call k hc hk ls st σ v σ' h
  obtain ⟨x, r, rfl, h_1⟩ := pI_inv h
  obtain ⟨a, r, rfl, h_2⟩ := pR_inv h_1
  obtain ⟨⟨ha, hkd⟩, h_3⟩ := cIf_inv h_2
  obtain ⟨c1, c2, c3, c4, c5, c6⟩ := hcl
  obtain ⟨hm, hw⟩ := hk _ _ _ _ _ _ h_3
  refine ⟨hm, fun p l e R s m args below meth c H locs cells slots mc ms real C hK hB hDy hl => ?_⟩
  refine va_put C.1 C.2.1 C.2.2.2.2.2.1 c4 ty c5 c6 C.2.2.2.2.1 hK.1.1 hDy.1 aW_D hDy.2.2.1 a (by rw [aW_get ha, aE_obj hkd c3]) c1 f hf (C.2.2.2.2.2.1 _ hlink) (fun _ h => h) hfin (ty := .int) (by rw [c5 f hf, hty]) rfl rfl (by rw [aFv_len, c2]; exact hf) hd (fun H1 locs1 hP1 hD1 hS1 => ?_)
  have e1 : (aW G σ).set a (G.1 + a, .inr (ci, (aFv G σ ci a).set f (Value.int x))) = aW G (aWI σ a f x) := by
    rw [aFv_setI hfl]
    exact aW_set rfl (aE_obj hkd c3) (fun b hb => aE_neI hb)
  have hP1 : va_P G.2.1 vwCl (aW G (aWI σ a f x)) H1 := by rw [← e1]; exact hP1
  exact hw p l e R s m args below meth c H1 locs1 cells slots mc ms real C hK hB ⟨hP1, hDy.2.1, hS1, hDy.2.2.2⟩ hl
theorem sd_putZ {ci : Nat} {C : String} {T : u_T} {N : Nat} {ty : Nat → FieldType} (hcl : aClOK ci C T N ty) (f : Nat) (hf : f < N) (hfl : (aFl ci)[f]? = some false) (hfin : (T f).2.2.2 = false) (hty : ty f = .boolean) {index : Nat} (hlink : Cond.fieldLink M.2.2.2.2.2.2 index (T f).1 (T f).2.1 (T f).2.2.1 ∈ aTT) (hd : decode M.2.1 pc = .ok (.putfield index, 3)) : aSnd G M pc (oPutZ ci f (pc + 3)) := by
  intro call k hc hk ls st σ v σ' h
  obtain ⟨x, r, rfl, h_1⟩ := pI_inv h
  obtain ⟨a, r, rfl, h_2⟩ := pR_inv h_1
  obtain ⟨⟨ha, hkd, hx⟩, h_3⟩ := cIf_inv h_2
  obtain ⟨c1, c2, c3, c4, c5, c6⟩ := hcl
  obtain ⟨hm, hw⟩ := hk _ _ _ _ _ _ h_3
  refine ⟨hm, fun p l e R s m args below meth c H locs cells slots mc ms real C hK hB hDy hl => ?_⟩
  refine va_put C.1 C.2.1 C.2.2.2.2.2.1 c4 ty c5 c6 C.2.2.2.2.1 hK.1.1 hDy.1 aW_D hDy.2.2.1 a (by rw [aW_get ha, aE_obj hkd c3]) c1 f hf (C.2.2.2.2.2.1 _ hlink) (fun _ h => h) hfin (ty := .boolean) (by rw [c5 f hf, hty]) (by rcases hx with rfl | rfl <;> rfl) (by rcases hx with rfl | rfl <;> rfl) (by rw [aFv_len, c2]; exact hf) hd (fun H1 locs1 hP1 hD1 hS1 => ?_)
  have e1 : (aW G σ).set a (G.1 + a, .inr (ci, (aFv G σ ci a).set f (Value.int x))) = aW G (aWI σ a f x) := by
    rw [aFv_setI hfl]
    exact aW_set rfl (aE_obj hkd c3) (fun b hb => aE_neI hb)
  have hP1 : va_P G.2.1 vwCl (aW G (aWI σ a f x)) H1 := by rw [← e1]; exact hP1
  exact hw p l e R s m args below meth c H1 locs1 cells slots mc ms real C hK hB ⟨hP1, hDy.2.1, hS1, hDy.2.2.2⟩ hl
theorem sd_putR {ci : Nat} {C : String} {T : u_T} {N : Nat} {ty : Nat → FieldType} (hcl : aClOK ci C T N ty) (f : Nat) (hf : f < N) (hfl : (aFl ci)[f]? = some true) (hfin : (T f).2.2.2 = false) (hty : ∀ b, narrow (ty f) (.ref b) = .ref b ∧ fits (ty f) (.ref b) = true) {index : Nat} (hlink : Cond.fieldLink M.2.2.2.2.2.2 index (T f).1 (T f).2.1 (T f).2.2.1 ∈ aTT) (hd : decode M.2.1 pc = .ok (.putfield index, 3)) : aSnd G M pc (oPutR ci f (pc + 3)) := by
  intro call k hc hk ls st σ v σ' h
  obtain ⟨x, r, rfl, h_1⟩ := pR_inv h
  obtain ⟨a, r, rfl, h_2⟩ := pR_inv h_1
  obtain ⟨⟨ha, hkd⟩, h_3⟩ := cIf_inv h_2
  obtain ⟨c1, c2, c3, c4, c5, c6⟩ := hcl
  obtain ⟨hm, hw⟩ := hk _ _ _ _ _ _ h_3
  refine ⟨hm, fun p l e R s m args below meth c H locs cells slots mc ms real C hK hB hDy hl => ?_⟩
  refine va_put C.1 C.2.1 C.2.2.2.2.2.1 c4 ty c5 c6 C.2.2.2.2.1 hK.1.1 hDy.1 aW_D hDy.2.2.1 a (by rw [aW_get ha, aE_obj hkd c3]) c1 f hf (C.2.2.2.2.2.1 _ hlink) (fun _ h => h) hfin (ty := ty f) (c5 f hf) (hty _).1 (hty _).2 (by rw [aFv_len, c2]; exact hf) hd (fun H1 locs1 hP1 hD1 hS1 => ?_)
  have e0 := aFv_setP (G := G) (σ := σ) (a := a) (b := some x) hfl
  rw [show va_rf (aRf G (some x)) = Value.ref (G.1 + x) from rfl] at e0
  have e1 : (aW G σ).set a (G.1 + a, .inr (ci, (aFv G σ ci a).set f (Value.ref (G.1 + x)))) = aW G (aWP σ a f (some x)) := by
    rw [e0]
    exact aW_set rfl (aE_obj hkd c3) (fun b hb => aE_neP hb)
  have hP1 : va_P G.2.1 vwCl (aW G (aWP σ a f (some x))) H1 := by rw [← e1]; exact hP1
  exact hw p l e R s m args below meth c H1 locs1 cells slots mc ms real C hK hB ⟨hP1, hDy.2.1, hS1, hDy.2.2.2⟩ hl
theorem sd_putF {ci : Nat} {C : String} {T : u_T} {N : Nat} {ty : Nat → FieldType} (hcl : aClOK ci C T N ty) (f : Nat) (hf : f < N) (hfl : (aFl ci)[f]? = some true) (hfin : (T f).2.2.2 = true) (hin : M.1.name = "<init>") (hdec : (T f).1 = M.2.2.2.2.2.2) (hty : ∀ b, narrow (ty f) (.ref b) = .ref b ∧ fits (ty f) (.ref b) = true) {index : Nat} (hlink : Cond.fieldLink M.2.2.2.2.2.2 index (T f).1 (T f).2.1 (T f).2.2.1 ∈ aTT) (hd : decode M.2.1 pc = .ok (.putfield index, 3)) : aSnd G M pc (oPutR ci f (pc + 3)) := by
  intro call k hc hk ls st σ v σ' h
  obtain ⟨x, r, rfl, h_1⟩ := pR_inv h
  obtain ⟨a, r, rfl, h_2⟩ := pR_inv h_1
  obtain ⟨⟨ha, hkd⟩, h_3⟩ := cIf_inv h_2
  obtain ⟨c1, c2, c3, c4, c5, c6⟩ := hcl
  obtain ⟨hm, hw⟩ := hk _ _ _ _ _ _ h_3
  refine ⟨hm, fun p l e R s m args below meth c H locs cells slots mc ms real C hK hB hDy hl => ?_⟩
  refine va_putF C.1 C.2.1 C.2.2.2.2.2.1 c4 ty c5 c6 C.2.2.2.2.1 hK.1.1 hDy.1 aW_D hDy.2.2.1 a (by rw [aW_get ha, aE_obj hkd c3]) c1 f hf (C.2.2.2.2.2.1 _ hlink) (fun _ h => h) hfin (C.2.2.2.2.2.2.2.1 hin) hdec (ty := ty f) (c5 f hf) (hty _).1 (hty _).2 (by rw [aFv_len, c2]; exact hf) hd (fun H1 locs1 hP1 hD1 hS1 => ?_)
  have e0 := aFv_setP (G := G) (σ := σ) (a := a) (b := some x) hfl
  rw [show va_rf (aRf G (some x)) = Value.ref (G.1 + x) from rfl] at e0
  have e1 : (aW G σ).set a (G.1 + a, .inr (ci, (aFv G σ ci a).set f (Value.ref (G.1 + x)))) = aW G (aWP σ a f (some x)) := by
    rw [e0]
    exact aW_set rfl (aE_obj hkd c3) (fun b hb => aE_neP hb)
  have hP1 : va_P G.2.1 vwCl (aW G (aWP σ a f (some x))) H1 := by rw [← e1]; exact hP1
  exact hw p l e R s m args below meth c H1 locs1 cells slots mc ms real C hK hB ⟨hP1, hDy.2.1, hS1, hDy.2.2.2⟩ hl
theorem sd_iaload (hd : decode M.2.1 pc = .ok (.iaload, 1)) : aSnd G M pc (oAldI 15 (pc + 1)) := by
  intro call k hc hk ls st σ v σ' h
  obtain ⟨i, r, rfl, h_1⟩ := pI_inv h
  obtain ⟨a, r, rfl, h_2⟩ := pR_inv h_1
  obtain ⟨⟨ha, hkd, hi⟩, h_3⟩ := cIf_inv h_2
  exact aPP_sk (hk _ _ _ _ _ _ h_3) (fun p l e R s m args below meth c H locs cells slots mc ms Q real C hK hB hDy hl hw => va_iald C.1 C.2.1 hK.1.1 hDy.1 a 2 (by rw [aW_get ha, aE_int hkd (by omega) (by omega) (by omega)]) rfl hi hd hw)
theorem sd_caload (hd : decode M.2.1 pc = .ok (.caload, 1)) : aSnd G M pc (oAldI 14 (pc + 1)) := by
  intro call k hc hk ls st σ v σ' h
  obtain ⟨i, r, rfl, h_1⟩ := pI_inv h
  obtain ⟨a, r, rfl, h_2⟩ := pR_inv h_1
  obtain ⟨⟨ha, hkd, hi⟩, h_3⟩ := cIf_inv h_2
  exact aPP_sk (hk _ _ _ _ _ _ h_3) (fun p l e R s m args below meth c H locs cells slots mc ms Q real C hK hB hDy hl hw => va_cald C.1 C.2.1 hK.1.1 hDy.1 a 1 (by rw [aW_get ha, aE_int hkd (by omega) (by omega) (by omega)]) rfl hi hd hw)
theorem sd_baload (hd : decode M.2.1 pc = .ok (.baload, 1)) : aSnd G M pc (oAldI 13 (pc + 1)) := by
  intro call k hc hk ls st σ v σ' h
  obtain ⟨i, r, rfl, h_1⟩ := pI_inv h
  obtain ⟨a, r, rfl, h_2⟩ := pR_inv h_1
  obtain ⟨⟨ha, hkd, hi⟩, h_3⟩ := cIf_inv h_2
  exact aPP_sk (hk _ _ _ _ _ _ h_3) (fun p l e R s m args below meth c H locs cells slots mc ms Q real C hK hB hDy hl hw => va_bald C.1 C.2.1 hK.1.1 hDy.1 a 0 (by rw [aW_get ha, aE_int hkd (by omega) (by omega) (by omega)]) rfl hi hd hw)
theorem sd_zaload (hd : decode M.2.1 pc = .ok (.baload, 1)) : aSnd G M pc (oAldI 17 (pc + 1)) := by
  intro call k hc hk ls st σ v σ' h
  obtain ⟨i, r, rfl, h_1⟩ := pI_inv h
  obtain ⟨a, r, rfl, h_2⟩ := pR_inv h_1
  obtain ⟨⟨ha, hkd, hi⟩, h_3⟩ := cIf_inv h_2
  exact aPP_sk (hk _ _ _ _ _ _ h_3) (fun p l e R s m args below meth c H locs cells slots mc ms Q real C hK hB hDy hl hw => va_zald C.1 C.2.1 hK.1.1 hDy.1 a 4 (by rw [aW_get ha, aE_int hkd (by omega) (by omega) (by omega)]) rfl hi hd hw)
theorem sd_laload (hd : decode M.2.1 pc = .ok (.laload, 1)) : aSnd G M pc (oAldJ (pc + 1)) := by
  intro call k hc hk ls st σ v σ' h
  obtain ⟨i, r, rfl, h_1⟩ := pI_inv h
  obtain ⟨a, r, rfl, h_2⟩ := pR_inv h_1
  obtain ⟨⟨ha, hkd, hi⟩, h_3⟩ := cIf_inv h_2
  exact aPP_sk (hk _ _ _ _ _ _ h_3) (fun p l e R s m args below meth c H locs cells slots mc ms Q real C hK hB hDy hl hw => va_lald C.1 C.2.1 hK.1.1 hDy.1 a 3 (by rw [aW_get ha, aE_lng hkd]) rfl hi hd hw)
theorem aald_ref {p : Program} {l : Launch} {e : Env} {R : Room} {s : State} {m : MethodId} {args : Array Value} {below : List Frame} {meth : Method} {c : Code} {H : Heap} {locs : List Loc} {cells slots : Nat} {Q : State → Prop} {cc : ByteArray} {pc : Nat} {ls : Array Slot} {rest : List Value} {D : va_G} {cl : List vw_C} {a : Nat} {tys : List (ClassId × FieldType)} {ws : va_W} (hexec : p.tables.exec = Jvm.exec) (hb : c.code = cc) (hK : va_K D cl tys s) (hP : va_P D cl ws H) (q0 t0 : Nat) {cA : ClassId} {ty : FieldType} (hty : ty.isReference = true) {n : Nat} {f : Nat → Option Nat} (ha : ws[q0]? = some (a, .inl (cA, n, .inr (.inr (.inr (.inr f)))))) (ht : tys[t0]? = some (cA, ty)) {i : Int32} (hin : vp_in i n) (hdg : decode cc pc = .ok (.aaload, 1))
    (kk : W p l e R s m args below meth c H locs cells slots Q (F0 m (pc + 1) ls (va_rf (f i.toNatClampNeg) :: rest))) : W p l e R s m args below meth c H locs cells slots Q (F0 m pc ls (.int i :: .ref a :: rest)) := by
  have hlt : i.toNatClampNeg < n := Nat.not_le.mp fun q => hin (Or.inr q)
  exact W.aald (v := va_rf (f i.toNatClampNeg)) (ty := ty) hexec hb (hP q0 _ ha) ((hK.2 t0 _ ht).1 n (fun j => va_rf (f j))) hty (fun q => by cases q) (by show ¬ (i < 0 ∨ (arrV _ _ _).slots.size ≤ _); rw [arrV_size]; exact hin) (by show (arrV _ _ _).slots[_]? = _; rw [arrV_read _ _ hlt]) rfl rfl hdg kk
theorem aTyF_ref {k : Nat} (h1 : 17 < k) (h2 : k < 25) : (aTyF k).isReference = true := by
  rcases (show k = 18 ∨ k = 19 ∨ k = 20 ∨ k = 21 ∨ k = 22 ∨ k = 23 ∨ k = 24 by omega) with rfl | rfl | rfl | rfl | rfl | rfl | rfl <;> rfl
theorem sd_aaload (hd : decode M.2.1 pc = .ok (.aaload, 1)) : aSnd G M pc (oAldR (pc + 1)) := by
  intro call k hc hk ls st σ v σ' h
  obtain ⟨i, r, rfl, h_1⟩ := pI_inv h
  obtain ⟨a, r, rfl, h_2⟩ := pR_inv h_1
  obtain ⟨⟨ha, hk1, hk2, hi⟩, h_3⟩ := cIf_inv h_2
  split at h_3
  · next b hb =>
    exact aPP_sk (hk _ _ _ _ _ _ h_3) (fun p l e R s m args below meth c H locs cells slots mc ms Q real C hK hB hDy hl hw => aald_ref C.1 C.2.1 hK.1.1 hDy.1 a _ (aTyF_ref hk1 hk2) (by rw [aW_get ha, aE_ref rfl hk1]) (aTys_at (by omega) hk2) hi hd (by simp only [hb]; exact hw))
  · next hb =>
    exact aPP_sk (hk _ _ _ _ _ _ h_3) (fun p l e R s m args below meth c H locs cells slots mc ms Q real C hK hB hDy hl hw => aald_ref C.1 C.2.1 hK.1.1 hDy.1 a _ (aTyF_ref hk1 hk2) (by rw [aW_get ha, aE_ref rfl hk1]) (aTys_at (by omega) hk2) hi hd (by simp only [hb]; exact hw))
theorem upd_u2' {f : Nat → Nat → Int32} {a k : Nat} {v : Int32} : upd (fun j => f a j) k v = fun j => u2 f a k v a j := by
  funext j
  simp [upd, u2]
theorem sd_iastore (hd : decode M.2.1 pc = .ok (.iastore, 1)) : aSnd G M pc (oAstI 15 (fun x => x) (pc + 1)) := by
  intro call k hc hk ls st σ v σ' h
  obtain ⟨x, r, rfl, h_1⟩ := pI_inv h
  obtain ⟨i, r, rfl, h_2⟩ := pI_inv h_1
  obtain ⟨a, r, rfl, h_3⟩ := pR_inv h_2
  obtain ⟨⟨ha, hkd, hi⟩, h_4⟩ := cIf_inv h_3
  obtain ⟨hm, hw⟩ := hk _ _ _ _ _ _ h_4
  refine ⟨hm, fun p l e R s m args below meth c H locs cells slots mc ms real C hK hB hDy hl => ?_⟩
  refine va_iast C.1 C.2.1 hK.1.1 hDy.1 aW_D hDy.2.2.1 a 2 (by rw [aW_get ha, aE_int hkd (by omega) (by omega) (by omega)]) rfl hi hd (fun H1 locs1 hP1 hD1 hS1 => ?_)
  have e1 : (aW G σ).set a (G.1 + a, .inl (G.2.2.1 15, (aH σ a).2, .inl (upd (fun j => aI σ a j) i.toNatClampNeg x))) = aW G (aWI σ a i.toNatClampNeg x) := by
    rw [upd_u2']
    exact aW_set rfl (aE_int hkd (by omega) (by omega) (by omega)) (fun b hb => aE_neI hb)
  have hP1 : va_P G.2.1 vwCl (aW G (aWI σ a i.toNatClampNeg x)) H1 := by rw [← e1]; exact hP1
  exact hw p l e R s m args below meth c H1 locs1 cells slots mc ms real C hK hB ⟨hP1, hDy.2.1, hS1, hDy.2.2.2⟩ hl
theorem sd_bastore (hd : decode M.2.1 pc = .ok (.bastore, 1)) : aSnd G M pc (oAstI 13 (fun x => (vp_nar .byte x)) (pc + 1)) := by
  intro call k hc hk ls st σ v σ' h
  obtain ⟨x, r, rfl, h_1⟩ := pI_inv h
  obtain ⟨i, r, rfl, h_2⟩ := pI_inv h_1
  obtain ⟨a, r, rfl, h_3⟩ := pR_inv h_2
  obtain ⟨⟨ha, hkd, hi⟩, h_4⟩ := cIf_inv h_3
  obtain ⟨hm, hw⟩ := hk _ _ _ _ _ _ h_4
  refine ⟨hm, fun p l e R s m args below meth c H locs cells slots mc ms real C hK hB hDy hl => ?_⟩
  refine va_bast C.1 C.2.1 hK.1.1 hDy.1 aW_D hDy.2.2.1 a 0 (by rw [aW_get ha, aE_int hkd (by omega) (by omega) (by omega)]) rfl hi hd (fun H1 locs1 hP1 hD1 hS1 => ?_)
  have e1 : (aW G σ).set a (G.1 + a, .inl (G.2.2.1 13, (aH σ a).2, .inl (upd (fun j => aI σ a j) i.toNatClampNeg (vp_nar .byte x)))) = aW G (aWI σ a i.toNatClampNeg (vp_nar .byte x)) := by
    rw [upd_u2']
    exact aW_set rfl (aE_int hkd (by omega) (by omega) (by omega)) (fun b hb => aE_neI hb)
  have hP1 : va_P G.2.1 vwCl (aW G (aWI σ a i.toNatClampNeg (vp_nar .byte x))) H1 := by rw [← e1]; exact hP1
  exact hw p l e R s m args below meth c H1 locs1 cells slots mc ms real C hK hB ⟨hP1, hDy.2.1, hS1, hDy.2.2.2⟩ hl
theorem sd_zastore (hd : decode M.2.1 pc = .ok (.bastore, 1)) : aSnd G M pc (oAstI 17 (fun x => (vp_nar .boolean x)) (pc + 1)) := by
  intro call k hc hk ls st σ v σ' h
  obtain ⟨x, r, rfl, h_1⟩ := pI_inv h
  obtain ⟨i, r, rfl, h_2⟩ := pI_inv h_1
  obtain ⟨a, r, rfl, h_3⟩ := pR_inv h_2
  obtain ⟨⟨ha, hkd, hi⟩, h_4⟩ := cIf_inv h_3
  obtain ⟨hm, hw⟩ := hk _ _ _ _ _ _ h_4
  refine ⟨hm, fun p l e R s m args below meth c H locs cells slots mc ms real C hK hB hDy hl => ?_⟩
  refine va_zast C.1 C.2.1 hK.1.1 hDy.1 aW_D hDy.2.2.1 a 4 (by rw [aW_get ha, aE_int hkd (by omega) (by omega) (by omega)]) rfl hi hd (fun H1 locs1 hP1 hD1 hS1 => ?_)
  have e1 : (aW G σ).set a (G.1 + a, .inl (G.2.2.1 17, (aH σ a).2, .inl (upd (fun j => aI σ a j) i.toNatClampNeg (vp_nar .boolean x)))) = aW G (aWI σ a i.toNatClampNeg (vp_nar .boolean x)) := by
    rw [upd_u2']
    exact aW_set rfl (aE_int hkd (by omega) (by omega) (by omega)) (fun b hb => aE_neI hb)
  have hP1 : va_P G.2.1 vwCl (aW G (aWI σ a i.toNatClampNeg (vp_nar .boolean x))) H1 := by rw [← e1]; exact hP1
  exact hw p l e R s m args below meth c H1 locs1 cells slots mc ms real C hK hB ⟨hP1, hDy.2.1, hS1, hDy.2.2.2⟩ hl
theorem sd_castore (hd : decode M.2.1 pc = .ok (.castore, 1)) : aSnd G M pc (oAstI 14 (fun x => (vp_nar .char x)) (pc + 1)) := by
  intro call k hc hk ls st σ v σ' h
  obtain ⟨x, r, rfl, h_1⟩ := pI_inv h
  obtain ⟨i, r, rfl, h_2⟩ := pI_inv h_1
  obtain ⟨a, r, rfl, h_3⟩ := pR_inv h_2
  obtain ⟨⟨ha, hkd, hi⟩, h_4⟩ := cIf_inv h_3
  obtain ⟨hm, hw⟩ := hk _ _ _ _ _ _ h_4
  refine ⟨hm, fun p l e R s m args below meth c H locs cells slots mc ms real C hK hB hDy hl => ?_⟩
  refine va_cast C.1 C.2.1 hK.1.1 hDy.1 aW_D hDy.2.2.1 a 1 (by rw [aW_get ha, aE_int hkd (by omega) (by omega) (by omega)]) rfl hi hd (fun H1 locs1 hP1 hD1 hS1 => ?_)
  have e1 : (aW G σ).set a (G.1 + a, .inl (G.2.2.1 14, (aH σ a).2, .inl (upd (fun j => aI σ a j) i.toNatClampNeg (vp_nar .char x)))) = aW G (aWI σ a i.toNatClampNeg (vp_nar .char x)) := by
    rw [upd_u2']
    exact aW_set rfl (aE_int hkd (by omega) (by omega) (by omega)) (fun b hb => aE_neI hb)
  have hP1 : va_P G.2.1 vwCl (aW G (aWI σ a i.toNatClampNeg (vp_nar .char x))) H1 := by rw [← e1]; exact hP1
  exact hw p l e R s m args below meth c H1 locs1 cells slots mc ms real C hK hB ⟨hP1, hDy.2.1, hS1, hDy.2.2.2⟩ hl
theorem updL_u2 {f : Nat → Nat → Int64} {a k : Nat} {v : Int64} : vp_updL (fun j => f a j) k v = fun j => u2 f a k v a j := by
  funext j
  simp [vp_updL, u2]
theorem sd_lastore (hd : decode M.2.1 pc = .ok (.lastore, 1)) : aSnd G M pc (oAstJ (pc + 1)) := by
  intro call k hc hk ls st σ v σ' h
  obtain ⟨x, r, rfl, h_1⟩ := pJ_inv h
  obtain ⟨i, r, rfl, h_2⟩ := pI_inv h_1
  obtain ⟨a, r, rfl, h_3⟩ := pR_inv h_2
  obtain ⟨⟨ha, hkd, hi⟩, h_4⟩ := cIf_inv h_3
  obtain ⟨hm, hw⟩ := hk _ _ _ _ _ _ h_4
  refine ⟨hm, fun p l e R s m args below meth c H locs cells slots mc ms real C hK hB hDy hl => ?_⟩
  refine va_last C.1 C.2.1 hK.1.1 hDy.1 aW_D hDy.2.2.1 a 3 (by rw [aW_get ha, aE_lng hkd]) rfl hi hd (fun H1 locs1 hP1 hD1 hS1 => ?_)
  have e1 : (aW G σ).set a (G.1 + a, .inl (G.2.2.1 16, (aH σ a).2, .inr (.inl (vp_updL (fun j => aJ σ a j) i.toNatClampNeg x)))) = aW G (aWJ σ a i.toNatClampNeg x) := by
    rw [updL_u2]
    exact aW_set rfl (aE_lng hkd) (fun b hb => aE_neJ hb)
  have hP1 : va_P G.2.1 vwCl (aW G (aWJ σ a i.toNatClampNeg x)) H1 := by rw [← e1]; exact hP1
  exact hw p l e R s m args below meth c H1 locs1 cells slots mc ms real C hK hB ⟨hP1, hDy.2.1, hS1, hDy.2.2.2⟩ hl
theorem sd_aastore {kd ci : Nat} {C : String} {T : u_T} {N : Nat} {ty : Nat → FieldType} (hcl : aClOK ci C T N ty) (h1 : 17 < kd) (h2 : kd < 24) (hty : aTyF kd = .object C) (hd : decode M.2.1 pc = .ok (.aastore, 1)) : aSnd G M pc (oAstR kd ci (pc + 1)) := by
  intro call k hc hk ls st σ v σ' h
  obtain ⟨x, r, rfl, h_1⟩ := pR_inv h
  obtain ⟨i, r, rfl, h_2⟩ := pI_inv h_1
  obtain ⟨a, r, rfl, h_3⟩ := pR_inv h_2
  obtain ⟨⟨ha, hkd, hi, hx1, hx2⟩, h_4⟩ := cIf_inv h_3
  obtain ⟨c1, c2, c3, c4, c5, c6⟩ := hcl
  obtain ⟨hm, hw⟩ := hk _ _ _ _ _ _ h_4
  refine ⟨hm, fun p l e R s m args below meth c H locs cells slots mc ms real C hK hB hDy hl => ?_⟩
  have ht := aTys_at (G := G) (k := kd) (by omega) (by omega)
  rw [hty] at ht
  refine va_astq C.1 C.2.1 hK.1.1 hDy.1 aW_D hDy.2.2.1 a (kd - 13) x ci (by rw [aW_get ha, aE_ref hkd h1]) ht (by rw [aW_get hx1, aE_obj hx2 c3]) c1 hi hd (fun H1 locs1 hP1 hD1 hS1 => ?_)
  have e0 : va_up (fun j => aRf G (aP σ a j)) i.toNatClampNeg (some (G.1 + x)) = fun j => aRf G (aP (aWP σ a i.toNatClampNeg (some x)) a j) := by
    funext j
    show (if j = i.toNatClampNeg then some (G.1 + x) else aRf G (aP σ a j)) = aRf G (u2 σ.2.2.2.2.2 a i.toNatClampNeg (some x) a j)
    by_cases hj : j = i.toNatClampNeg
    · rw [if_pos hj, hj, u2_eq]
      rfl
    · rw [if_neg hj, u2_nk hj]
  have e1 : (aW G σ).set a (G.1 + a, .inl (G.2.2.1 kd, (aH σ a).2, .inr (.inr (.inr (.inr (va_up (fun j => aRf G (aP σ a j)) i.toNatClampNeg (some (G.1 + x)))))))) = aW G (aWP σ a i.toNatClampNeg (some x)) := by
    rw [e0]
    exact aW_set rfl (aE_ref hkd h1) (fun b hb => aE_neP hb)
  have hP1 : va_P G.2.1 vwCl (aW G (aWP σ a i.toNatClampNeg (some x))) H1 := by rw [← e1]; exact hP1
  exact hw p l e R s m args below meth c H1 locs1 cells slots mc ms real C hK hB ⟨hP1, hDy.2.1, hS1, hDy.2.2.2⟩ hl
theorem sd_len (hd : decode M.2.1 pc = .ok (.arraylength, 1)) : aSnd G M pc (oLen (pc + 1)) := by
  intro call k hc hk ls st σ v σ' h
  obtain ⟨a, r, rfl, h_1⟩ := pR_inv h
  obtain ⟨⟨ha, hk1, hk2⟩, h_2⟩ := cIf_inv h_1
  refine aPP_sk (hk _ _ _ _ _ _ h_2) (fun p l e R s m args below meth c H locs cells slots mc ms Q real C hK hB hDy hl hw => ?_)
  by_cases e1 : (aH σ a).1 = 16
  · have he : (aW G σ)[a]? = some (G.1 + a, .inl (G.2.2.1 16, ((aH σ a).2, .inr (.inl (fun j => aJ σ a j))))) := by rw [aW_get ha, aE_lng e1]
    exact va_alen C.1 C.2.1 hK.1.1 hDy.1 a 3 he rfl rfl hd hw
  · by_cases e2 : (aH σ a).1 < 18
    · have he : (aW G σ)[a]? = some (G.1 + a, .inl (G.2.2.1 (aH σ a).1, ((aH σ a).2, .inl (fun j => aI σ a j)))) := by rw [aW_get ha, aE_int rfl hk1 e1 e2]
      exact va_alen C.1 C.2.1 hK.1.1 hDy.1 a _ he (aTys_at hk1 hk2) rfl hd hw
    · have he : (aW G σ)[a]? = some (G.1 + a, .inl (G.2.2.1 (aH σ a).1, ((aH σ a).2, .inr (.inr (.inr (.inr (fun j => aRf G (aP σ a j)))))))) := by rw [aW_get ha, aE_ref rfl (by omega)]
      exact va_alen C.1 C.2.1 hK.1.1 hDy.1 a _ he (aTys_at hk1 hk2) rfl hd hw
/-- the heap is not larger than what was made -/
theorem W_sz {p : Program} {l : Launch} {e : Env} {R : Room} {s : State} {m : MethodId} {args : Array Value} {below : List Frame} {meth : Method} {c : Code} {H : Heap} {locs : List Loc} {cells slots : Nat} {Q : State → Prop} {g : JFrame} (h : H.size ≤ s.heap.size + cells → W p l e R s m args below meth c H locs cells slots Q g) : W p l e R s m args below meth c H locs cells slots Q g :=
  fun T hT X => h (by rw [← hT]; exact X.heapSize) T hT X
theorem aLow {σ : aSt} {H : Heap} (hP : va_P G.2.1 vwCl (aW G σ) H) (hB : G.1 ≤ H.size) : G.1 + σ.1 ≤ H.size := by
  by_cases h : σ.1 = 0
  · omega
  · have := (hP (σ.1 - 1) _ (aW_get (by omega))).lt
    simp only at this
    omega
theorem aE_new {σ : aSt} {kd n b : Nat} (h : b < σ.1) : aE G (aNew σ kd n) b = aE G σ b := by
  have hb : ¬ b = σ.1 := by omega
  exact aE_congr (if_neg hb) (fun _ => if_neg hb) (fun _ => if_neg hb) (fun _ => if_neg hb)
theorem aH_new {σ : aSt} {kd n : Nat} : aH (aNew σ kd n) σ.1 = (kd, n) := if_pos rfl
theorem aI_new {σ : aSt} {kd n j : Nat} : aI (aNew σ kd n) σ.1 j = 0 := if_pos rfl
theorem aJ_new {σ : aSt} {kd n j : Nat} : aJ (aNew σ kd n) σ.1 j = 0 := if_pos rfl
theorem aP_new {σ : aSt} {kd n j : Nat} : aP (aNew σ kd n) σ.1 j = none := if_pos rfl
theorem aFv_new {σ : aSt} {ci n : Nat} : aFv G (aNew σ ci n) ci σ.1 = (aFl ci).map (fun r => if r = true then Value.null else .int 0) := by
  apply List.ext_getElem?
  intro i
  unfold aFv
  rw [List.getElem?_map, List.getElem?_map]
  by_cases hi : i < (aFl ci).length
  · rw [List.getElem?_range hi, List.getElem?_eq_getElem hi]
    simp only [Option.map_some, List.getD_eq_getElem?_getD, List.getElem?_eq_getElem hi, Option.getD_some]
    rw [aI_new, aP_new]
    rfl
  · rw [List.getElem?_eq_none (by simp; omega), List.getElem?_eq_none (by omega)]
    rfl
theorem sd_newO {ci : Nat} {C : String} {T : u_T} {N : Nat} {ty : Nat → FieldType} (hcl : aClOK ci C T N ty) (hdf : ∀ j, j < N → defaultValue (ty j) = vp_V ((aFl ci).map (fun r => if r = true then Value.null else .int 0)) j) {index : Nat} (h1 : Cond.classLink M.2.2.2.2.2.2 index C ∈ aTT) (h2 : Cond.instantiable C N ∈ aTT) (h3 : Cond.initialized C ∈ aTT) (hd : decode M.2.1 pc = .ok (.new index, 3)) : aSnd G M pc (oNewO ci N (pc + 3)) := by
  intro call k hc hk ls st σ v σ' h
  obtain ⟨c1, c2, c3, c4, c5, c6⟩ := hcl
  obtain ⟨hm, hw⟩ := hk _ _ _ _ _ _ h
  have hm1 : σ.1 + 1 ≤ σ'.1 := hm.1
  have hm2 : σ.2.1 + N ≤ σ'.2.1 := hm.2
  refine ⟨⟨by omega, by omega⟩, fun p l e R s m args below meth c H locs cells slots mc ms real C hK hB hDy hl => ?_⟩
  obtain ⟨hP, hz, hS, b1, b2, b3, b4⟩ := hDy
  refine W_sz (fun hsz => ?_)
  have hlow := aLow hP (Nat.le_trans hB hS.1)
  have hsize : H.size = G.1 + σ.1 := by omega
  have hKn := hK.1.1.1 ci _ c1
  refine W.newcK C.1 C.2.1 C.2.2.2.2.1 (C.2.2.2.2.2.1 _ h1) (C.2.2.2.2.2.1 _ h2) (C.2.2.2.2.2.1 _ h3) rfl hd (by omega) (by omega) hKn.2.1 hsize fun H1 kC hkC e1 z1 o1 => ?_
  have hk0 : ∀ (k : Nat) (x : Nat × va_E), (aW G σ)[k]? = some x → H1[x.1]? = H[x.1]? := fun k x hx => o1 x.1 (by have := (hP k x hx).lt; omega)
  have hP1 : va_P G.2.1 vwCl (aW G (aNew σ ci N)) H1 := by
    rw [← aW_push (G := G) (σ := σ) (σ' := aNew σ ci N) rfl (aE_obj (by rw [aH_new]) c3) (fun b hb => aE_new hb), aFv_new]
    refine (hP.kept hk0).app (fun k x hx => ?_)
    have hz : k < 1 := (List.getElem?_eq_some_iff.mp hx).1
    rw [show k = 0 by omega] at hx
    cases hx
    exact ⟨_, c1, (u_born ty C.2.2.2.2.2.1 c4 hKn hkC e1 c5).to hdf⟩
  exact hw p l e R s m args below meth c H1 locs (cells + 1) (slots + N) mc ms real C hK hB ⟨hP1, by show s.heap.size + (cells + 1) = G.1 + (σ.1 + 1); omega, ⟨Nat.le_trans hS.1 (by omega), fun x h1 h2 => (o1 x (by have := hS.1; omega)).trans (hS.2.1 x h1 h2), hS.2.2⟩, by show cells + 1 + σ'.1 ≤ mc + (σ.1 + 1); omega, by show slots + N + σ'.2.1 ≤ ms + (σ.2.1 + N); omega, b3, b4⟩ hl
theorem sd_newA {kd : Nat} {atype : ArrayType} (h1 : 12 < kd) (h2 : kd < 18) (hty : newarray.typeOf atype = aTyF kd) (hby : componentBytes (aTyF kd) ≤ 8) (harr : Cond.arrayClass (aTyF kd) ∈ aTT) (hd : decode M.2.1 pc = .ok (.newarray atype, 2)) : aSnd G M pc (oNewA kd (pc + 2)) := by
  intro call k hc hk ls st σ v σ' h
  obtain ⟨n, r, rfl, h_1⟩ := pI_inv h
  obtain ⟨⟨hn, hnl⟩, h_2⟩ := cIf_inv h_1
  obtain ⟨hm, hw⟩ := hk _ _ _ _ _ _ h_2
  have hm1 : σ.1 + 1 ≤ σ'.1 := hm.1
  have hm2 : σ.2.1 + n.toNatClampNeg ≤ σ'.2.1 := hm.2
  refine ⟨⟨by omega, by omega⟩, fun p l e R s m args below meth c H locs cells slots mc ms real C hK hB hDy hl => ?_⟩
  obtain ⟨hP, hz, hS, b1, b2, b3, b4⟩ := hDy
  refine W_sz (fun hsz => ?_)
  have hlow := aLow hP (Nat.le_trans hB hS.1)
  have hsize : H.size = G.1 + σ.1 := by omega
  refine va_newaK C.1 C.2.1 (by rw [hty]; exact C.2.2.2.2.2.1 _ harr) rfl hd rfl hn rfl (by rw [hty]; have := Nat.mul_le_mul hnl hby; omega) (by omega) (by omega) hsize fun H1 cA e1 z1 o1 hAr hNm => ?_
  have hk0 : ∀ (k : Nat) (x : Nat × va_E), (aW G σ)[k]? = some x → H1[x.1]? = H[x.1]? := fun k x hx => o1 x.1 (by have := (hP k x hx).lt; omega)
  have hcy : cA = G.2.2.1 kd := by
    have h3 := (hK.1.1.2 (kd - 13) _ (aTys_at h1 (by omega))).2
    rw [hty] at hNm
    have h4 : s.vm.findClass ("[" ++ (aTyF kd).toString) = some (G.2.2.1 kd) := by
      rcases (show kd = 13 ∨ kd = 14 ∨ kd = 15 ∨ kd = 16 ∨ kd = 17 by omega) with rfl | rfl | rfl | rfl | rfl <;> exact h3
    rw [hNm] at h4
    exact Option.some.inj h4
  subst hcy
  have hP1 : va_P G.2.1 vwCl (aW G (aNew σ kd n.toNatClampNeg)) H1 := by
    rw [← aW_push (G := G) (σ := σ) (σ' := aNew σ kd n.toNatClampNeg) rfl rfl (fun b hb => aE_new hb)]
    refine (hP.kept hk0).app (fun k x hx => ?_)
    have hz : k < 1 := (List.getElem?_eq_some_iff.mp hx).1
    rw [show k = 0 by omega] at hx
    cases hx
    rw [hty] at e1
    by_cases hk16 : kd = 16
    · subst hk16
      rw [aE_lng (by rw [aH_new])]
      show H1[G.1 + σ.1]? = some (vp_cell _ _)
      rw [e1, vp_cell_l]
      simp only [aJ_new, aH_new]
      rfl
    · rw [aE_int (kd := kd) (by rw [aH_new]) h1 hk16 h2]
      show H1[G.1 + σ.1]? = some (vp_cell _ _)
      rw [e1, vp_cell_i]
      simp only [aI_new, aH_new]
      rcases (show kd = 13 ∨ kd = 14 ∨ kd = 15 ∨ kd = 17 by omega) with rfl | rfl | rfl | rfl <;> rfl
  exact hw p l e R s m args below meth c H1 locs (cells + 1) (slots + n.toNatClampNeg) mc ms real C hK hB ⟨hP1, by show s.heap.size + (cells + 1) = G.1 + (σ.1 + 1); omega, ⟨Nat.le_trans hS.1 (by omega), fun x h1 h2 => (o1 x (by have := hS.1; omega)).trans (hS.2.1 x h1 h2), hS.2.2⟩, by show cells + 1 + σ'.1 ≤ mc + (σ.1 + 1); omega, by show slots + n.toNatClampNeg + σ'.2.1 ≤ ms + (σ.2.1 + n.toNatClampNeg); omega, b3, b4⟩ hl
theorem sd_newQ {kd : Nat} {C : String} (h1 : 17 < kd) (h2 : kd < 24) (hty : aTyF kd = .object C) (hC : C ∈ [RX0, RX1, RX4, RX5, RX6, RX7]) {index : Nat} (hlk : Cond.classLink M.2.2.2.2.2.2 index C ∈ aTT) (hd : decode M.2.1 pc = .ok (.anewarray index, 3)) : aSnd G M pc (oNewA kd (pc + 3)) := by
  intro call k hc hk ls st σ v σ' h
  obtain ⟨n, r, rfl, h_1⟩ := pI_inv h
  obtain ⟨⟨hn, hnl⟩, h_2⟩ := cIf_inv h_1
  obtain ⟨hm, hw⟩ := hk _ _ _ _ _ _ h_2
  have hm1 : σ.1 + 1 ≤ σ'.1 := hm.1
  have hm2 : σ.2.1 + n.toNatClampNeg ≤ σ'.2.1 := hm.2
  refine ⟨⟨by omega, by omega⟩, fun p l e R s m args below meth c H locs cells slots mc ms real C hK hB hDy hl => ?_⟩
  obtain ⟨hP, hz, hS, b1, b2, b3, b4⟩ := hDy
  refine W_sz (fun hsz => ?_)
  have hlow := aLow hP (Nat.le_trans hB hS.1)
  have hsize : H.size = G.1 + σ.1 := by omega
  refine W.anew C.1 C.2.1 C.2.2.2.2.1 (C.2.2.2.2.2.1 _ hlk) (va_AO.use (hK.1.2.2.1.1 _ hC)) rfl hd rfl hn (by omega) (by omega) (by omega) fun cA kA comp f1 f2 f3 f4 => ?_
  generalize hH1 : H.push ({ cls := cA, slots := Array.replicate n.toNatClampNeg .null, vm := .none } : Cell) = H1
  have z1 : H1.size = H.size + 1 := by rw [← hH1, Array.size_push]
  have e1 : H1[H.size]? = some (arrV cA n.toNatClampNeg (fun _ => .null)) := by rw [← hH1, Array.getElem?_push_size, ← arrV_new]
  have o1 : ∀ q : Nat, q < H.size → H1[q]? = H[q]? := fun q hq => by rw [← hH1, Array.getElem?_push, if_neg (Nat.ne_of_lt hq)]
  have hk0 : ∀ (k : Nat) (x : Nat × va_E), (aW G σ)[k]? = some x → H1[x.1]? = H[x.1]? := fun k x hx => o1 x.1 ((hP k x hx).lt)
  have hcy : cA = G.2.2.1 kd := by
    have h3 := (hK.1.1.2 (kd - 13) _ (aTys_at (by omega) (by omega))).2
    rw [hty] at h3
    obtain ⟨kA', comp', q1, q2, q3, q4⟩ := h3
    rw [f1] at q4
    exact Option.some.inj q4
  subst hcy
  have hP1 : va_P G.2.1 vwCl (aW G (aNew σ kd n.toNatClampNeg)) H1 := by
    rw [← aW_push (G := G) (σ := σ) (σ' := aNew σ kd n.toNatClampNeg) rfl (aE_ref (by rw [aH_new]) h1) (fun b hb => aE_new hb)]
    refine (hP.kept hk0).app (fun k x hx => ?_)
    have hz : k < 1 := (List.getElem?_eq_some_iff.mp hx).1
    rw [show k = 0 by omega] at hx
    cases hx
    show H1[G.1 + σ.1]? = some (vp_cell _ _)
    rw [← hsize, e1, vp_cell_q]
    simp only [aP_new, aH_new]
    rfl
  refine W.eq (g2 := F0 m (pc + 3) real ((Value.ref σ.1 :: r).map (aT G))) (by rw [hsize]; rfl) ?_
  exact hw p l e R s m args below meth c H1 locs (cells + 1) (slots + n.toNatClampNeg) mc ms real C hK hB ⟨hP1, by show s.heap.size + (cells + 1) = G.1 + (σ.1 + 1); omega, ⟨Nat.le_trans hS.1 (by omega), fun x h1 h2 => (o1 x (by have := hS.1; omega)).trans (hS.2.1 x h1 h2), hS.2.2⟩, by show cells + 1 + σ'.1 ≤ mc + (σ.1 + 1); omega, by show slots + n.toNatClampNeg + σ'.2.1 ≤ ms + (σ.2.1 + n.toNatClampNeg); omega, b3, b4⟩ hl
end HP
