/-! ===== each step of the small machine is one of the real one: stack, locals, branches ===== -/
section SND
variable {G : aGl} {M : aMI} {pc : Nat}
theorem aPP_st {pc' : Nat} {ls st st' : List Value} {σ : aSt} {v : Option Value} {σ' : aSt} (h : aPP G M pc' ls st' σ v σ')
    (hW : ∀ (p : Program) (l : Launch) (e : Env) (R : Room) (s : State) (m : MethodId) (args : Array Value) (below : List Frame) (meth : Method) (c : Code) (H : Heap) (locs : List Loc) (cells slots : Nat) (Q : State → Prop) (real : Array Slot), aCx M p R s m args meth c → aLv G ls real M.2.2.1 →
      W p l e R s m args below meth c H locs cells slots Q (F0 m pc' real (st'.map (aT G))) → W p l e R s m args below meth c H locs cells slots Q (F0 m pc real (st.map (aT G)))) : aPP G M pc ls st σ v σ' :=
  ⟨h.1, fun p l e R s m args below meth c H locs cells slots mc ms real C hK hB hDy hl => hW p l e R s m args below meth c H locs cells slots _ real C hl (h.2 p l e R s m args below meth c H locs cells slots mc ms real C hK hB hDy hl)⟩
theorem sd_iconst {n : Int} {x : Int32} (hd : decode M.2.1 pc = .ok (.iconst n, 1)) (hx : Int32.ofInt n = x) : aSnd G M pc (oPush (.int x) (pc + 1)) := by
  intro call k hc hk ls st σ v σ' h
  exact aPP_st (hk _ _ _ _ _ _ h) (fun p l e R s m args below meth c H locs cells slots Q real C hl hw => lv_iconst C.1 C.2.1 hd hx hw)
theorem sd_bipush {n : Int} {x : Int32} (hd : decode M.2.1 pc = .ok (.bipush n, 2)) (hx : (Int8.ofInt n).toInt32 = x) : aSnd G M pc (oPush (.int x) (pc + 2)) := by
  intro call k hc hk ls st σ v σ' h
  exact aPP_st (hk _ _ _ _ _ _ h) (fun p l e R s m args below meth c H locs cells slots Q real C hl hw => lv_bipush C.1 C.2.1 hd hx hw)
theorem sd_sipush {n : Int} {x : Int32} (hd : decode M.2.1 pc = .ok (.sipush n, 3)) (hx : (Int16.ofInt n).toInt32 = x) : aSnd G M pc (oPush (.int x) (pc + 3)) := by
  intro call k hc hk ls st σ v σ' h
  exact aPP_st (hk _ _ _ _ _ _ h) (fun p l e R s m args below meth c H locs cells slots Q real C hl hw => lv_sipush C.1 C.2.1 hd hx hw)
theorem sd_lconst {n : Fin 2} {x : Int64} (hd : decode M.2.1 pc = .ok (.lconst n, 1)) (hx : (if (n : Nat) = 0 then (0 : Int64) else 1) = x) : aSnd G M pc (oPush (.long x) (pc + 1)) := by
  intro call k hc hk ls st σ v σ' h
  refine aPP_st (hk _ _ _ _ _ _ h) (fun p l e R s m args below meth c H locs cells slots Q real C hl hw => lv_lconst C.1 C.2.1 hd ?_ hw)
  rw [← hx]
  match n with
  | 0 => rfl
  | 1 => rfl
theorem sd_ldc {index : Nat} {x : Int32} (hw0 : Cond.constant M.2.2.2.2.2.2 index x ∈ aTT) (hd : decode M.2.1 pc = .ok (.ldc index, 2)) : aSnd G M pc (oPush (.int x) (pc + 2)) := by
  intro call k hc hk ls st σ v σ' h
  exact aPP_st (hk _ _ _ _ _ _ h) (fun p l e R s m args below meth c H locs cells slots Q real C hl hw => lv_ldc C.1 C.2.1 C.2.2.2.2.1 (C.2.2.2.2.2.1 _ hw0) hd hw)
theorem sd_ldcw {index : Nat} {x : Int32} (hw0 : Cond.constant M.2.2.2.2.2.2 index x ∈ aTT) (hd : decode M.2.1 pc = .ok (.ldc_w index, 3)) : aSnd G M pc (oPush (.int x) (pc + 3)) := by
  intro call k hc hk ls st σ v σ' h
  exact aPP_st (hk _ _ _ _ _ _ h) (fun p l e R s m args below meth c H locs cells slots Q real C hl hw => lv_ldcw C.1 C.2.1 C.2.2.2.2.1 (C.2.2.2.2.2.1 _ hw0) hd hw)
theorem sd_ldc2 {index : Nat} {x : Int64} (hw0 : Cond.constantLong M.2.2.2.2.2.2 index x ∈ aTT) (hd : decode M.2.1 pc = .ok (.ldc2_w index, 3)) : aSnd G M pc (oPush (.long x) (pc + 3)) := by
  intro call k hc hk ls st σ v σ' h
  exact aPP_st (hk _ _ _ _ _ _ h) (fun p l e R s m args below meth c H locs cells slots Q real C hl hw => lv_ldc2 C.1 C.2.1 C.2.2.2.2.1 (C.2.2.2.2.2.1 _ hw0) hd hw)
theorem aLv_at {ls : List Value} {real : Array Slot} {nL i : Nat} {v : Value} (h : aLv G ls real nL) (hi : ls[i]? = some v) (hv : aOk v) : real[i]? = some (.val (aT G v)) := by
  obtain ⟨-, l', h1, h2⟩ := h
  exact h1.2.2 _ (h2 i v hi hv)
theorem sd_iload {i : Nat} (hd : decode M.2.1 pc = .ok (.iload i, 2)) : aSnd G M pc (oIload i (pc + 2)) := by
  intro call k hc hk ls st σ v σ' h
  obtain ⟨x, r, hx, h_1⟩ := pI_inv h
  exact aPP_st (hk _ _ _ _ _ _ h_1) (fun p l e R s m args below meth c H locs cells slots Q real C hl hw => lv_iload C.1 C.2.1 hd (aLv_at hl (gL_inv hx).1 trivial) hw)
theorem sd_iload_n {n : Fin 4} {i : Nat} (hd : decode M.2.1 pc = .ok (.iload_n n, 1)) (hi : (n : Nat) = i) : aSnd G M pc (oIload i (pc + 1)) := by
  intro call k hc hk ls st σ v σ' h
  obtain ⟨x, r, hx, h_1⟩ := pI_inv h
  exact aPP_st (hk _ _ _ _ _ _ h_1) (fun p l e R s m args below meth c H locs cells slots Q real C hl hw => lv_iload_n C.1 C.2.1 hd hi (aLv_at hl (gL_inv hx).1 trivial) hw)
theorem sd_lload {i : Nat} (hd : decode M.2.1 pc = .ok (.lload i, 2)) : aSnd G M pc (oLload i (pc + 2)) := by
  intro call k hc hk ls st σ v σ' h
  obtain ⟨x, r, hx, h_1⟩ := pJ_inv h
  exact aPP_st (hk _ _ _ _ _ _ h_1) (fun p l e R s m args below meth c H locs cells slots Q real C hl hw => lv_lload C.1 C.2.1 hd (aLv_at hl (gL_inv hx).1 trivial) hw)
theorem sd_lload_n {n : Fin 4} {i : Nat} (hd : decode M.2.1 pc = .ok (.lload_n n, 1)) (hi : (n : Nat) = i) : aSnd G M pc (oLload i (pc + 1)) := by
  intro call k hc hk ls st σ v σ' h
  obtain ⟨x, r, hx, h_1⟩ := pJ_inv h
  exact aPP_st (hk _ _ _ _ _ _ h_1) (fun p l e R s m args below meth c H locs cells slots Q real C hl hw => lv_lload_n C.1 C.2.1 hd hi (aLv_at hl (gL_inv hx).1 trivial) hw)
/-- with what stays at hand too -/
theorem aPP_sk {pc' : Nat} {ls st st' : List Value} {σ : aSt} {v : Option Value} {σ' : aSt} (h : aPP G M pc' ls st' σ v σ')
    (hW : ∀ (p : Program) (l : Launch) (e : Env) (R : Room) (s : State) (m : MethodId) (args : Array Value) (below : List Frame) (meth : Method) (c : Code) (H : Heap) (locs : List Loc) (cells slots mc ms : Nat) (Q : State → Prop) (real : Array Slot), aCx M p R s m args meth c → aKK G s s.heap → G.1 ≤ s.heap.size → aDy G σ σ' s R H locs cells slots mc ms → aLv G ls real M.2.2.1 →
      W p l e R s m args below meth c H locs cells slots Q (F0 m pc' real (st'.map (aT G))) → W p l e R s m args below meth c H locs cells slots Q (F0 m pc real (st.map (aT G)))) : aPP G M pc ls st σ v σ' :=
  ⟨h.1, fun p l e R s m args below meth c H locs cells slots mc ms real C hK hB hDy hl => hW p l e R s m args below meth c H locs cells slots mc ms _ real C hK hB hDy hl (h.2 p l e R s m args below meth c H locs cells slots mc ms real C hK hB hDy hl)⟩
theorem sd_aload_n {n : Fin 4} {i : Nat} (hd : decode M.2.1 pc = .ok (.aload_n n, 1)) (hi : (n : Nat) = i) : aSnd G M pc (oAload i (pc + 1)) := by
  intro call k hc hk ls st σ v σ' h
  obtain ⟨x, r, hx, h_1, hv⟩ := pA_inv h
  refine aPP_sk (hk _ _ _ _ _ _ h_1) (fun p l e R s m args below meth c H locs cells slots mc ms Q real C hK hB hDy hl hw => ?_)
  have hat := gL_inv hx
  rcases hv with ⟨y, rfl⟩ | rfl | ⟨y, rfl⟩
  · exact lv_aload_n C.1 C.2.1 hd hi (aLv_at hl hat.1 trivial) hw
  · exact lv_aload_nN C.1 C.2.1 hd hi (aLv_at hl hat.1 trivial) hw
  · have h1 := aLv_at hl hat.1 trivial
    have e1 : aT G (.float y) = G.2.2.2.1 y.toNat := rfl
    have e2 : List.map (aT G) (Value.float y :: st) = G.2.2.2.1 y.toNat :: List.map (aT G) st := rfl
    rw [e1] at h1
    rw [e2] at hw
    rcases hK.1.2.2.2.2 y.toNat with ⟨a, ha⟩ | ha
    · rw [ha] at h1 hw
      exact lv_aload_n C.1 C.2.1 hd hi h1 hw
    · rw [ha] at h1 hw
      exact lv_aload_nN C.1 C.2.1 hd hi h1 hw
theorem sd_aload {i : Nat} (hd : decode M.2.1 pc = .ok (.aload i, 2)) : aSnd G M pc (oAload i (pc + 2)) := by
  intro call k hc hk ls st σ v σ' h
  obtain ⟨x, r, hx, h_1, hv⟩ := pA_inv h
  refine aPP_sk (hk _ _ _ _ _ _ h_1) (fun p l e R s m args below meth c H locs cells slots mc ms Q real C hK hB hDy hl hw => ?_)
  have hat := gL_inv hx
  rcases hv with ⟨y, rfl⟩ | rfl | ⟨y, rfl⟩
  · exact lv_aload C.1 C.2.1 hd (aLv_at hl hat.1 trivial) hw
  · exact lv_aloadN C.1 C.2.1 hd (aLv_at hl hat.1 trivial) hw
  · have h1 := aLv_at hl hat.1 trivial
    have e1 : aT G (.float y) = G.2.2.2.1 y.toNat := rfl
    have e2 : List.map (aT G) (Value.float y :: st) = G.2.2.2.1 y.toNat :: List.map (aT G) st := rfl
    rw [e1] at h1
    rw [e2] at hw
    rcases hK.1.2.2.2.2 y.toNat with ⟨a, ha⟩ | ha
    · rw [ha] at h1 hw
      exact lv_aload C.1 C.2.1 hd h1 hw
    · rw [ha] at h1 hw
      exact lv_aloadN C.1 C.2.1 hd h1 hw
theorem aKl_ne {x : Value} (h : aOk (aKl x)) : aKl x = x ∧ ∀ y, x ≠ .long y := by
  cases x <;> simp [aKl, aOk, aU] at h ⊢
theorem aS1_len : ∀ (ls : List Value) (i : Nat) (v : Value), (aS1 ls i v).length = ls.length
  | [], _, _ => rfl
  | _ :: _, 0, _ => rfl
  | _ :: r, 1, v => by simp [aS1, aS1_len r 0 v]
  | _ :: r, i + 2, v => by simp [aS1, aS1_len r (i + 1) v]
theorem aS1_at : ∀ (ls : List Value) (i : Nat) (v : Value) (j : Nat) (w : Value), (aS1 ls i v)[j]? = some w → aOk w → (j = i ∧ w = v) ∨ (j ≠ i ∧ ls[j]? = some w ∧ (j + 1 = i → ∀ y, w ≠ .long y))
  | [], _, _, j, w, h, _ => by simp [aS1] at h
  | x :: r, 0, v, 0, w, h, _ => by simp [aS1] at h; exact Or.inl ⟨rfl, h.symm⟩
  | x :: r, 0, v, j + 1, w, h, _ => by
    simp [aS1] at h
    exact Or.inr ⟨by omega, by simpa using h, by omega⟩
  | x :: r, 1, v, 0, w, h, hw => by
    simp [aS1] at h
    subst h
    have := aKl_ne hw
    exact Or.inr ⟨by omega, by simp [this.1], fun _ => by rw [this.1]; exact this.2⟩
  | x :: r, 1, v, j + 1, w, h, hw => by
    simp only [aS1, List.getElem?_cons_succ] at h
    rcases aS1_at r 0 v j w h hw with ⟨h1, h2⟩ | ⟨h1, h2, h3⟩
    · exact Or.inl ⟨by omega, h2⟩
    · exact Or.inr ⟨by omega, by simpa using h2, by omega⟩
  | x :: r, i + 2, v, 0, w, h, _ => by
    simp [aS1] at h
    exact Or.inr ⟨by omega, by simp [h], by omega⟩
  | x :: r, i + 2, v, j + 1, w, h, hw => by
    simp only [aS1, List.getElem?_cons_succ] at h
    rcases aS1_at r (i + 1) v j w h hw with ⟨h1, h2⟩ | ⟨h1, h2, h3⟩
    · exact Or.inl ⟨by omega, h2⟩
    · exact Or.inr ⟨by omega, by simpa using h2, fun e => h3 (by omega)⟩
theorem aT_cat (hs : ∀ u : Nat, (∃ a : Nat, G.2.2.2.1 u = .ref a) ∨ G.2.2.2.1 u = .null) (v : Value) : (aT G v).category = v.category := by
  cases v with
  | float u =>
    rcases hs u.toNat with ⟨a, h⟩ | h <;> simp [aT, h, Value.category]
  | _ => simp [aT, Value.category]
theorem aLv_s1 {ls : List Value} {real : Array Slot} {nL i : Nat} {v : Value} (hs : ∀ u : Nat, (∃ a : Nat, G.2.2.2.1 u = .ref a) ∨ G.2.2.2.1 u = .null) (h : aLv G ls real nL) :
    ∃ lv, lv_has real nL lv ∧ ∀ real', lv_has real' nL ((i, aT G v) :: lv.filter (fun q => !(q.1 == i) && !(q.1 + 1 == i && q.2.category == 2))) → aLv G (aS1 ls i v) real' nL := by
  obtain ⟨h0, l', h1, h2⟩ := h
  refine ⟨l', h1, fun real' hr => ⟨by rw [aS1_len, h0], _, hr, fun j w hj hw => ?_⟩⟩
  rcases aS1_at ls i v j w hj hw with ⟨rfl, rfl⟩ | ⟨e1, e2, e3⟩
  · exact List.mem_cons_self
  · refine List.mem_cons_of_mem _ (List.mem_filter.mpr ⟨h2 j w e2 hw, ?_⟩)
    simp only [Bool.and_eq_true, Bool.not_eq_true', beq_eq_false_iff_ne, ne_eq, Bool.and_eq_false_imp, beq_iff_eq]
    refine ⟨e1, fun e => ?_⟩
    have h3 := e3 e
    rw [aT_cat hs]
    cases w <;> simp_all [Value.category, aOk]
theorem sd_istore_n {n : Fin 4} {i : Nat} (hd : decode M.2.1 pc = .ok (.istore_n n, 1)) (hi : (n : Nat) = i) : aSnd G M pc (oIstore i (pc + 1)) := by
  intro call k hc hk ls st σ v σ' h
  obtain ⟨x, r, rfl, h_1⟩ := pI_inv h
  obtain ⟨hn, h_2⟩ := cIf_inv h_1
  obtain ⟨hm, hw⟩ := hk _ _ _ _ _ _ h_2
  refine ⟨hm, fun p l e R s m args below meth c H locs cells slots mc ms real C hK hB hDy hl => ?_⟩
  obtain ⟨lv, h1, h2⟩ := aLv_s1 (i := i) (v := .int x) hK.1.2.2.2.2 hl
  exact lv_istore_n C.1 C.2.1 hd hi h1 (by have := hl.1; omega) rfl (fun ls' h' => hw p l e R s m args below meth c H locs cells slots mc ms ls' C hK hB hDy (h2 ls' h'))
theorem sd_istore {i : Nat} (hd : decode M.2.1 pc = .ok (.istore i, 2)) : aSnd G M pc (oIstore i (pc + 2)) := by
  intro call k hc hk ls st σ v σ' h
  obtain ⟨x, r, rfl, h_1⟩ := pI_inv h
  obtain ⟨hn, h_2⟩ := cIf_inv h_1
  obtain ⟨hm, hw⟩ := hk _ _ _ _ _ _ h_2
  refine ⟨hm, fun p l e R s m args below meth c H locs cells slots mc ms real C hK hB hDy hl => ?_⟩
  obtain ⟨lv, h1, h2⟩ := aLv_s1 (i := i) (v := .int x) hK.1.2.2.2.2 hl
  exact lv_istore C.1 C.2.1 hd h1 (by have := hl.1; omega) rfl (fun ls' h' => hw p l e R s m args below meth c H locs cells slots mc ms ls' C hK hB hDy (h2 ls' h'))
theorem sd_astore_n {n : Fin 4} {i : Nat} (hd : decode M.2.1 pc = .ok (.astore_n n, 1)) (hi : (n : Nat) = i) : aSnd G M pc (oAstore i (pc + 1)) := by
  intro call k hc hk ls st σ v σ' h
  obtain ⟨x, r, rfl, h_1⟩ := pR_inv h
  obtain ⟨hn, h_2⟩ := cIf_inv h_1
  obtain ⟨hm, hw⟩ := hk _ _ _ _ _ _ h_2
  refine ⟨hm, fun p l e R s m args below meth c H locs cells slots mc ms real C hK hB hDy hl => ?_⟩
  obtain ⟨lv, h1, h2⟩ := aLv_s1 (i := i) (v := .ref x) hK.1.2.2.2.2 hl
  exact lv_astore_n C.1 C.2.1 hd hi h1 (by have := hl.1; omega) rfl (fun ls' h' => hw p l e R s m args below meth c H locs cells slots mc ms ls' C hK hB hDy (h2 ls' h'))
theorem sd_astore {i : Nat} (hd : decode M.2.1 pc = .ok (.astore i, 2)) : aSnd G M pc (oAstore i (pc + 2)) := by
  intro call k hc hk ls st σ v σ' h
  obtain ⟨x, r, rfl, h_1⟩ := pR_inv h
  obtain ⟨hn, h_2⟩ := cIf_inv h_1
  obtain ⟨hm, hw⟩ := hk _ _ _ _ _ _ h_2
  refine ⟨hm, fun p l e R s m args below meth c H locs cells slots mc ms real C hK hB hDy hl => ?_⟩
  obtain ⟨lv, h1, h2⟩ := aLv_s1 (i := i) (v := .ref x) hK.1.2.2.2.2 hl
  exact lv_astore C.1 C.2.1 hd h1 (by have := hl.1; omega) rfl (fun ls' h' => hw p l e R s m args below meth c H locs cells slots mc ms ls' C hK hB hDy (h2 ls' h'))
theorem sd_iinc {i : Nat} {n : Int} {d : Int32} (hd : decode M.2.1 pc = .ok (.iinc i n, 3)) (hn : Int32.ofInt n = d) : aSnd G M pc (oIinc i d (pc + 3)) := by
  intro call k hc hk ls st σ v σ' h
  obtain ⟨x, r, hx, h_1⟩ := pI_inv h
  obtain ⟨hn', h_2⟩ := cIf_inv h_1
  obtain ⟨hm, hw⟩ := hk _ _ _ _ _ _ h_2
  refine ⟨hm, fun p l e R s m args below meth c H locs cells slots mc ms real C hK hB hDy hl => ?_⟩
  obtain ⟨h0, l', h1, h2⟩ := hl
  obtain ⟨kk, hkk⟩ := List.getElem?_of_mem (h2 i _ (gL_inv hx).1 trivial)
  subst hn
  refine lv_iinc C.1 C.2.1 hd h1 hkk rfl (by omega) rfl (fun ls' h' => hw p l e R s m args below meth c H locs cells slots mc ms ls' C hK hB hDy ⟨by rw [aS1_len, h0], _, h', fun j w hj hw => ?_⟩)
  rcases aS1_at ls i _ j w hj hw with ⟨rfl, rfl⟩ | ⟨e1, e2, e3⟩
  · exact List.mem_cons_self
  · refine List.mem_cons_of_mem _ (List.mem_filter.mpr ⟨h2 j w e2 hw, ?_⟩)
    simp only [Bool.and_eq_true, Bool.not_eq_true', beq_eq_false_iff_ne, ne_eq, Bool.and_eq_false_imp, beq_iff_eq]
    refine ⟨e1, fun e => ?_⟩
    have h3 := e3 e
    rw [aT_cat hK.1.2.2.2.2]
    cases w <;> simp_all [Value.category, aOk]
theorem sd_iadd (hd : decode M.2.1 pc = .ok (.iadd, 1)) : aSnd G M pc (oBin (fun x y => x + y) (pc + 1)) := by
  intro call k hc hk ls st σ v σ' h
  obtain ⟨y, r, rfl, h_1⟩ := pI_inv h
  obtain ⟨x, r, rfl, h_2⟩ := pI_inv h_1
  exact aPP_st (hk _ _ _ _ _ _ h_2) (fun p l e R s m args below meth c H locs cells slots Q real C hl hw => lv_iadd C.1 C.2.1 hd hw)
theorem sd_isub (hd : decode M.2.1 pc = .ok (.isub, 1)) : aSnd G M pc (oBin (fun x y => x - y) (pc + 1)) := by
  intro call k hc hk ls st σ v σ' h
  obtain ⟨y, r, rfl, h_1⟩ := pI_inv h
  obtain ⟨x, r, rfl, h_2⟩ := pI_inv h_1
  exact aPP_st (hk _ _ _ _ _ _ h_2) (fun p l e R s m args below meth c H locs cells slots Q real C hl hw => lv_isub C.1 C.2.1 hd hw)
theorem sd_imul (hd : decode M.2.1 pc = .ok (.imul, 1)) : aSnd G M pc (oBin (fun x y => x * y) (pc + 1)) := by
  intro call k hc hk ls st σ v σ' h
  obtain ⟨y, r, rfl, h_1⟩ := pI_inv h
  obtain ⟨x, r, rfl, h_2⟩ := pI_inv h_1
  exact aPP_st (hk _ _ _ _ _ _ h_2) (fun p l e R s m args below meth c H locs cells slots Q real C hl hw => lv_imul C.1 C.2.1 hd hw)
theorem sd_iand (hd : decode M.2.1 pc = .ok (.iand, 1)) : aSnd G M pc (oBin (fun x y => x &&& y) (pc + 1)) := by
  intro call k hc hk ls st σ v σ' h
  obtain ⟨y, r, rfl, h_1⟩ := pI_inv h
  obtain ⟨x, r, rfl, h_2⟩ := pI_inv h_1
  exact aPP_st (hk _ _ _ _ _ _ h_2) (fun p l e R s m args below meth c H locs cells slots Q real C hl hw => lv_iand C.1 C.2.1 hd hw)
theorem sd_ior (hd : decode M.2.1 pc = .ok (.ior, 1)) : aSnd G M pc (oBin (fun x y => x ||| y) (pc + 1)) := by
  intro call k hc hk ls st σ v σ' h
  obtain ⟨y, r, rfl, h_1⟩ := pI_inv h
  obtain ⟨x, r, rfl, h_2⟩ := pI_inv h_1
  exact aPP_st (hk _ _ _ _ _ _ h_2) (fun p l e R s m args below meth c H locs cells slots Q real C hl hw => lv_ior C.1 C.2.1 hd hw)
theorem sd_ishl (hd : decode M.2.1 pc = .ok (.ishl, 1)) : aSnd G M pc (oBin (fun x y => x <<< (y &&& 31)) (pc + 1)) := by
  intro call k hc hk ls st σ v σ' h
  obtain ⟨y, r, rfl, h_1⟩ := pI_inv h
  obtain ⟨x, r, rfl, h_2⟩ := pI_inv h_1
  exact aPP_st (hk _ _ _ _ _ _ h_2) (fun p l e R s m args below meth c H locs cells slots Q real C hl hw => lv_ishl C.1 C.2.1 hd hw)
theorem sd_ishr (hd : decode M.2.1 pc = .ok (.ishr, 1)) : aSnd G M pc (oBin (fun x y => x >>> (y &&& 31)) (pc + 1)) := by
  intro call k hc hk ls st σ v σ' h
  obtain ⟨y, r, rfl, h_1⟩ := pI_inv h
  obtain ⟨x, r, rfl, h_2⟩ := pI_inv h_1
  exact aPP_st (hk _ _ _ _ _ _ h_2) (fun p l e R s m args below meth c H locs cells slots Q real C hl hw => lv_ishr C.1 C.2.1 hd hw)
theorem sd_iushr (hd : decode M.2.1 pc = .ok (.iushr, 1)) : aSnd G M pc (oBin (fun x y => (x.toUInt32 >>> (y.toUInt32 &&& Int32.toUInt32 31)).toInt32) (pc + 1)) := by
  intro call k hc hk ls st σ v σ' h
  obtain ⟨y, r, rfl, h_1⟩ := pI_inv h
  obtain ⟨x, r, rfl, h_2⟩ := pI_inv h_1
  exact aPP_st (hk _ _ _ _ _ _ h_2) (fun p l e R s m args below meth c H locs cells slots Q real C hl hw => lv_iushr C.1 C.2.1 hd rfl hw)
theorem sd_idiv (hd : decode M.2.1 pc = .ok (.idiv, 1)) : aSnd G M pc (oDiv (pc + 1)) := by
  intro call k hc hk ls st σ v σ' h
  obtain ⟨y, r, rfl, h_1⟩ := pI_inv h
  obtain ⟨x, r, rfl, h_2⟩ := pI_inv h_1
  obtain ⟨hy, h_3⟩ := cIf_inv h_2
  exact aPP_st (hk _ _ _ _ _ _ h_3) (fun p l e R s m args below meth c H locs cells slots Q real C hl hw => lv_idiv C.1 C.2.1 hd hy hw)
theorem sd_i2b (hd : decode M.2.1 pc = .ok (.i2b, 1)) : aSnd G M pc (oUn (fun x => x.toInt8.toInt32) (pc + 1)) := by
  intro call k hc hk ls st σ v σ' h
  obtain ⟨x, r, rfl, h_1⟩ := pI_inv h
  exact aPP_st (hk _ _ _ _ _ _ h_1) (fun p l e R s m args below meth c H locs cells slots Q real C hl hw => lv_i2b C.1 C.2.1 hd rfl hw)
theorem sd_i2c (hd : decode M.2.1 pc = .ok (.i2c, 1)) : aSnd G M pc (oUn (fun x => (x.toUInt32 % 65536).toInt32) (pc + 1)) := by
  intro call k hc hk ls st σ v σ' h
  obtain ⟨x, r, rfl, h_1⟩ := pI_inv h
  exact aPP_st (hk _ _ _ _ _ _ h_1) (fun p l e R s m args below meth c H locs cells slots Q real C hl hw => lv_i2c C.1 C.2.1 hd rfl hw)
theorem sd_i2l (hd : decode M.2.1 pc = .ok (.i2l, 1)) : aSnd G M pc (oI2l (pc + 1)) := by
  intro call k hc hk ls st σ v σ' h
  obtain ⟨x, r, rfl, h_1⟩ := pI_inv h
  exact aPP_st (hk _ _ _ _ _ _ h_1) (fun p l e R s m args below meth c H locs cells slots Q real C hl hw => lv_i2l C.1 C.2.1 hd rfl hw)
theorem sd_ladd (hd : decode M.2.1 pc = .ok (.ladd, 1)) : aSnd G M pc (oBinL (fun x y => x + y) (pc + 1)) := by
  intro call k hc hk ls st σ v σ' h
  obtain ⟨y, r, rfl, h_1⟩ := pJ_inv h
  obtain ⟨x, r, rfl, h_2⟩ := pJ_inv h_1
  exact aPP_st (hk _ _ _ _ _ _ h_2) (fun p l e R s m args below meth c H locs cells slots Q real C hl hw => lv_ladd C.1 C.2.1 hd hw)
theorem sd_lmul (hd : decode M.2.1 pc = .ok (.lmul, 1)) : aSnd G M pc (oBinL (fun x y => x * y) (pc + 1)) := by
  intro call k hc hk ls st σ v σ' h
  obtain ⟨y, r, rfl, h_1⟩ := pJ_inv h
  obtain ⟨x, r, rfl, h_2⟩ := pJ_inv h_1
  exact aPP_st (hk _ _ _ _ _ _ h_2) (fun p l e R s m args below meth c H locs cells slots Q real C hl hw => lv_lmul C.1 C.2.1 hd hw)
theorem sd_lcmp (hd : decode M.2.1 pc = .ok (.lcmp, 1)) : aSnd G M pc (oLcmp (pc + 1)) := by
  intro call k hc hk ls st σ v σ' h
  obtain ⟨y, r, rfl, h_1⟩ := pJ_inv h
  obtain ⟨x, r, rfl, h_2⟩ := pJ_inv h_1
  exact aPP_st (hk _ _ _ _ _ _ h_2) (fun p l e R s m args below meth c H locs cells slots Q real C hl hw => W.lcmp C.1 C.2.1 hd hw)
theorem aV_cat {x : Value} (hs : ∀ u : Nat, (∃ a : Nat, G.2.2.2.1 u = .ref a) ∨ G.2.2.2.1 u = .null) (h : (∃ y, x = .int y) ∨ (∃ y, x = .ref y) ∨ x = .null ∨ ∃ y, x = .float y) : (aT G x).category = 1 := by
  rw [aT_cat hs]
  rcases h with ⟨y, rfl⟩ | ⟨y, rfl⟩ | rfl | ⟨y, rfl⟩ <;> rfl
theorem sd_dup (hd : decode M.2.1 pc = .ok (.dup, 1)) : aSnd G M pc (oDup (pc + 1)) := by
  intro call k hc hk ls st σ v σ' h
  obtain ⟨x, r, rfl, h_1, hv⟩ := pV_inv h
  exact aPP_sk (hk _ _ _ _ _ _ h_1) (fun p l e R s m args below meth c H locs cells slots mc ms Q real C hK hB hDy hl hw => lv_dup C.1 C.2.1 hd (aV_cat hK.1.2.2.2.2 hv) hw)
theorem sd_pop (hd : decode M.2.1 pc = .ok (.pop, 1)) : aSnd G M pc (oPop (pc + 1)) := by
  intro call k hc hk ls st σ v σ' h
  obtain ⟨x, r, rfl, h_1, hv⟩ := pV_inv h
  exact aPP_sk (hk _ _ _ _ _ _ h_1) (fun p l e R s m args below meth c H locs cells slots mc ms Q real C hK hB hDy hl hw => lv_pop C.1 C.2.1 hd (aV_cat hK.1.2.2.2.2 hv) hw)
theorem sd_dup2 (hd : decode M.2.1 pc = .ok (.dup2, 1)) : aSnd G M pc (oDup2 (pc + 1)) := by
  intro call k hc hk ls st σ v σ' h
  obtain ⟨x, r, rfl, h_1, hv⟩ := pV_inv h
  obtain ⟨y, r, rfl, h_2, hv2⟩ := pV_inv h_1
  exact aPP_sk (hk _ _ _ _ _ _ h_2) (fun p l e R s m args below meth c H locs cells slots mc ms Q real C hK hB hDy hl hw => lv_dup2_11 C.1 C.2.1 hd (aV_cat hK.1.2.2.2.2 hv) (aV_cat hK.1.2.2.2.2 hv2) hw)
theorem sd_goto {off : Int} {t : Nat} (hd : decode M.2.1 pc = .ok (.goto off, 3)) (ht : (pc : Int) + off = (t : Int)) : aSnd G M pc (oGoto t) := by
  intro call k hc hk ls st σ v σ' h
  exact aPP_st (hk _ _ _ _ _ _ h) (fun p l e R s m args below meth c H locs cells slots Q real C hl hw => lv_goto C.1 C.2.1 hd ht hw)
theorem sd_ifeq {off : Int} {t : Nat} (hd : decode M.2.1 pc = .ok (.ifCond .eq off, 3)) (ht : (pc : Int) + off = (t : Int)) : aSnd G M pc (oIfeq t (pc + 3)) := by
  intro call k hc hk ls st σ v σ' h
  obtain ⟨x, r, rfl, h_1⟩ := pI_inv h
  split at h_1
  · next hx => exact aPP_st (hk _ _ _ _ _ _ h_1) (fun p l e R s m args below meth c H locs cells slots Q real C hl hw => lv_if_eq C.1 C.2.1 hd ht (fun _ => hw) (fun h0 => absurd hx h0))
  · next hx => exact aPP_st (hk _ _ _ _ _ _ h_1) (fun p l e R s m args below meth c H locs cells slots Q real C hl hw => lv_if_eq C.1 C.2.1 hd ht (fun h0 => absurd h0 hx) (fun _ => hw))
theorem sd_ifne {off : Int} {t : Nat} (hd : decode M.2.1 pc = .ok (.ifCond .ne off, 3)) (ht : (pc : Int) + off = (t : Int)) : aSnd G M pc (oIfne t (pc + 3)) := by
  intro call k hc hk ls st σ v σ' h
  obtain ⟨x, r, rfl, h_1⟩ := pI_inv h
  split at h_1
  · next hx => exact aPP_st (hk _ _ _ _ _ _ h_1) (fun p l e R s m args below meth c H locs cells slots Q real C hl hw => lv_if_ne C.1 C.2.1 hd ht (fun _ => hw) (fun h0 => absurd h0 hx))
  · next hx => exact aPP_st (hk _ _ _ _ _ _ h_1) (fun p l e R s m args below meth c H locs cells slots Q real C hl hw => lv_if_ne C.1 C.2.1 hd ht (fun h0 => absurd h0 hx) (fun _ => hw))
theorem sd_iflt {off : Int} {t : Nat} (hd : decode M.2.1 pc = .ok (.ifCond .lt off, 3)) (ht : (pc : Int) + off = (t : Int)) : aSnd G M pc (oIflt t (pc + 3)) := by
  intro call k hc hk ls st σ v σ' h
  obtain ⟨x, r, rfl, h_1⟩ := pI_inv h
  split at h_1
  · next hx => exact aPP_st (hk _ _ _ _ _ _ h_1) (fun p l e R s m args below meth c H locs cells slots Q real C hl hw => lv_if_lt C.1 C.2.1 hd ht (fun _ => hw) (fun h0 => absurd hx h0))
  · next hx => exact aPP_st (hk _ _ _ _ _ _ h_1) (fun p l e R s m args below meth c H locs cells slots Q real C hl hw => lv_if_lt C.1 C.2.1 hd ht (fun h0 => absurd h0 hx) (fun _ => hw))
theorem sd_ifge {off : Int} {t : Nat} (hd : decode M.2.1 pc = .ok (.ifCond .ge off, 3)) (ht : (pc : Int) + off = (t : Int)) : aSnd G M pc (oIfge t (pc + 3)) := by
  intro call k hc hk ls st σ v σ' h
  obtain ⟨x, r, rfl, h_1⟩ := pI_inv h
  split at h_1
  · next hx => exact aPP_st (hk _ _ _ _ _ _ h_1) (fun p l e R s m args below meth c H locs cells slots Q real C hl hw => lv_if_ge C.1 C.2.1 hd ht (fun _ => hw) (fun h0 => absurd hx h0))
  · next hx => exact aPP_st (hk _ _ _ _ _ _ h_1) (fun p l e R s m args below meth c H locs cells slots Q real C hl hw => lv_if_ge C.1 C.2.1 hd ht (fun h0 => absurd h0 hx) (fun _ => hw))
theorem sd_ifgt {off : Int} {t : Nat} (hd : decode M.2.1 pc = .ok (.ifCond .gt off, 3)) (ht : (pc : Int) + off = (t : Int)) : aSnd G M pc (oIfgt t (pc + 3)) := by
  intro call k hc hk ls st σ v σ' h
  obtain ⟨x, r, rfl, h_1⟩ := pI_inv h
  split at h_1
  · next hx => exact aPP_st (hk _ _ _ _ _ _ h_1) (fun p l e R s m args below meth c H locs cells slots Q real C hl hw => lv_if_gt C.1 C.2.1 hd ht (fun _ => hw) (fun h0 => absurd hx h0))
  · next hx => exact aPP_st (hk _ _ _ _ _ _ h_1) (fun p l e R s m args below meth c H locs cells slots Q real C hl hw => lv_if_gt C.1 C.2.1 hd ht (fun h0 => absurd h0 hx) (fun _ => hw))
theorem sd_ifle {off : Int} {t : Nat} (hd : decode M.2.1 pc = .ok (.ifCond .le off, 3)) (ht : (pc : Int) + off = (t : Int)) : aSnd G M pc (oIfle t (pc + 3)) := by
  intro call k hc hk ls st σ v σ' h
  obtain ⟨x, r, rfl, h_1⟩ := pI_inv h
  split at h_1
  · next hx => exact aPP_st (hk _ _ _ _ _ _ h_1) (fun p l e R s m args below meth c H locs cells slots Q real C hl hw => lv_if_le C.1 C.2.1 hd ht (fun _ => hw) (fun h0 => absurd hx h0))
  · next hx => exact aPP_st (hk _ _ _ _ _ _ h_1) (fun p l e R s m args below meth c H locs cells slots Q real C hl hw => lv_if_le C.1 C.2.1 hd ht (fun h0 => absurd h0 hx) (fun _ => hw))
theorem sd_ceq {off : Int} {t : Nat} (hd : decode M.2.1 pc = .ok (.if_icmp .eq off, 3)) (ht : (pc : Int) + off = (t : Int)) : aSnd G M pc (oCeq t (pc + 3)) := by
  intro call k hc hk ls st σ v σ' h
  obtain ⟨y, r, rfl, h_1⟩ := pI_inv h
  obtain ⟨x, r, rfl, h_2⟩ := pI_inv h_1
  split at h_2
  · next hx => exact aPP_st (hk _ _ _ _ _ _ h_2) (fun p l e R s m args below meth c H locs cells slots Q real C hl hw => lv_icmp_eq C.1 C.2.1 hd ht (fun _ => hw) (fun h0 => absurd hx h0))
  · next hx => exact aPP_st (hk _ _ _ _ _ _ h_2) (fun p l e R s m args below meth c H locs cells slots Q real C hl hw => lv_icmp_eq C.1 C.2.1 hd ht (fun h0 => absurd h0 hx) (fun _ => hw))
theorem sd_cne {off : Int} {t : Nat} (hd : decode M.2.1 pc = .ok (.if_icmp .ne off, 3)) (ht : (pc : Int) + off = (t : Int)) : aSnd G M pc (oCne t (pc + 3)) := by
  intro call k hc hk ls st σ v σ' h
  obtain ⟨y, r, rfl, h_1⟩ := pI_inv h
  obtain ⟨x, r, rfl, h_2⟩ := pI_inv h_1
  split at h_2
  · next hx => exact aPP_st (hk _ _ _ _ _ _ h_2) (fun p l e R s m args below meth c H locs cells slots Q real C hl hw => lv_icmp_ne C.1 C.2.1 hd ht (fun _ => hw) (fun h0 => absurd h0 hx))
  · next hx => exact aPP_st (hk _ _ _ _ _ _ h_2) (fun p l e R s m args below meth c H locs cells slots Q real C hl hw => lv_icmp_ne C.1 C.2.1 hd ht (fun h0 => absurd h0 hx) (fun _ => hw))
theorem sd_clt {off : Int} {t : Nat} (hd : decode M.2.1 pc = .ok (.if_icmp .lt off, 3)) (ht : (pc : Int) + off = (t : Int)) : aSnd G M pc (oClt t (pc + 3)) := by
  intro call k hc hk ls st σ v σ' h
  obtain ⟨y, r, rfl, h_1⟩ := pI_inv h
  obtain ⟨x, r, rfl, h_2⟩ := pI_inv h_1
  split at h_2
  · next hx => exact aPP_st (hk _ _ _ _ _ _ h_2) (fun p l e R s m args below meth c H locs cells slots Q real C hl hw => lv_icmp_lt C.1 C.2.1 hd ht (fun _ => hw) (fun h0 => absurd hx h0))
  · next hx => exact aPP_st (hk _ _ _ _ _ _ h_2) (fun p l e R s m args below meth c H locs cells slots Q real C hl hw => lv_icmp_lt C.1 C.2.1 hd ht (fun h0 => absurd h0 hx) (fun _ => hw))
theorem sd_cge {off : Int} {t : Nat} (hd : decode M.2.1 pc = .ok (.if_icmp .ge off, 3)) (ht : (pc : Int) + off = (t : Int)) : aSnd G M pc (oCge t (pc + 3)) := by
  intro call k hc hk ls st σ v σ' h
  obtain ⟨y, r, rfl, h_1⟩ := pI_inv h
  obtain ⟨x, r, rfl, h_2⟩ := pI_inv h_1
  split at h_2
  · next hx => exact aPP_st (hk _ _ _ _ _ _ h_2) (fun p l e R s m args below meth c H locs cells slots Q real C hl hw => lv_icmp_ge C.1 C.2.1 hd ht (fun _ => hw) (fun h0 => absurd hx h0))
  · next hx => exact aPP_st (hk _ _ _ _ _ _ h_2) (fun p l e R s m args below meth c H locs cells slots Q real C hl hw => lv_icmp_ge C.1 C.2.1 hd ht (fun h0 => absurd h0 hx) (fun _ => hw))
theorem sd_cgt {off : Int} {t : Nat} (hd : decode M.2.1 pc = .ok (.if_icmp .gt off, 3)) (ht : (pc : Int) + off = (t : Int)) : aSnd G M pc (oCgt t (pc + 3)) := by
  intro call k hc hk ls st σ v σ' h
  obtain ⟨y, r, rfl, h_1⟩ := pI_inv h
  obtain ⟨x, r, rfl, h_2⟩ := pI_inv h_1
  split at h_2
  · next hx => exact aPP_st (hk _ _ _ _ _ _ h_2) (fun p l e R s m args below meth c H locs cells slots Q real C hl hw => lv_icmp_gt C.1 C.2.1 hd ht (fun _ => hw) (fun h0 => absurd hx h0))
  · next hx => exact aPP_st (hk _ _ _ _ _ _ h_2) (fun p l e R s m args below meth c H locs cells slots Q real C hl hw => lv_icmp_gt C.1 C.2.1 hd ht (fun h0 => absurd h0 hx) (fun _ => hw))
theorem sd_cle {off : Int} {t : Nat} (hd : decode M.2.1 pc = .ok (.if_icmp .le off, 3)) (ht : (pc : Int) + off = (t : Int)) : aSnd G M pc (oCle t (pc + 3)) := by
  intro call k hc hk ls st σ v σ' h
  obtain ⟨y, r, rfl, h_1⟩ := pI_inv h
  obtain ⟨x, r, rfl, h_2⟩ := pI_inv h_1
  split at h_2
  · next hx => exact aPP_st (hk _ _ _ _ _ _ h_2) (fun p l e R s m args below meth c H locs cells slots Q real C hl hw => lv_icmp_le C.1 C.2.1 hd ht (fun _ => hw) (fun h0 => absurd hx h0))
  · next hx => exact aPP_st (hk _ _ _ _ _ _ h_2) (fun p l e R s m args below meth c H locs cells slots Q real C hl hw => lv_icmp_le C.1 C.2.1 hd ht (fun h0 => absurd h0 hx) (fun _ => hw))
theorem sd_tab {dflt lo hi : Int} {offs : Array Int} {len : Nat} {ts : List Nat} {d : Nat} (hd : decode M.2.1 pc = .ok (.tableswitch dflt lo hi offs, len)) (h0 : (pc : Int) + dflt = (d : Int)) (hl0 : offs.toList.map (fun o => (pc : Int) + o) = ts.map (fun t : Nat => (t : Int))) : aSnd G M pc (oTab lo hi ts d) := by
  intro call k hc hk ls st σ v σ' h
  obtain ⟨x, r, rfl, h_1⟩ := pI_inv h
  split at h_1
  · next hx => exact aPP_st (hk _ _ _ _ _ _ h_1) (fun p l e R s m args below meth c H locs cells slots Q real C hl hw => lv_tableOut C.1 C.2.1 hd hx h0 hw)
  · next hx =>
    split at h_1
    · next t ht =>
      have h1 := congrArg (fun l => l[(x.toInt - lo).toNat]?) hl0
      simp only [List.getElem?_map, ht, Option.map_some] at h1
      obtain ⟨o, ho, he⟩ := Option.map_eq_some_iff.mp h1
      exact aPP_st (hk _ _ _ _ _ _ h_1) (fun p l e R s m args below meth c H locs cells slots Q real C hl hw => lv_tableIn C.1 C.2.1 hd (fun q => hx (Or.inl q)) (fun q => hx (Or.inr q)) (by rw [← Array.getElem?_toList]; exact ho) he hw)
    · cases h_1
theorem sd_look {dflt : Int} {ps : Array (Int × Int)} {len : Nat} (hd : decode M.2.1 pc = .ok (.lookupswitch dflt ps, len)) (hp : (ps.toList.zip (ps.toList.drop 1)).all (fun (a, next) => a.1 < next.1) = true) (hpos : ∀ x : Int, 0 ≤ (pc : Int) + Op.lookupswitch.offset ps.toList dflt x) : aSnd G M pc (oLook pc ps.toList dflt) := by
  intro call k hc hk ls st σ v σ' h
  obtain ⟨x, r, rfl, h_1⟩ := pI_inv h
  exact aPP_st (hk _ _ _ _ _ _ h_1) (fun p l e R s m args below meth c H locs cells slots Q real C hl hw => lv_lookup C.1 C.2.1 hd hp rfl (Int.toNat_of_nonneg (hpos _)).symm hw)
end SND
