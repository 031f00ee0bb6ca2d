/-! ===== returns, calls, the script, the constant text ===== -/
section CL
variable {G : aGl} {M : aMI} {pc : Nat}
theorem aS_F {s t : State} {H : Heap} {locs : List Loc} (hS : va_S (aBelow G) s.heap H locs) (ht : t.heap = H) : va_F (aBelow G) s t := hS.F ht
theorem sd_retI (hr : M.2.2.2.1 = some .int) (hd : decode M.2.1 pc = .ok (.ireturn, 1)) : aSnd G M pc oRetI := by
  intro call k hc hk ls st σ v σ' h
  obtain ⟨x, r, rfl, h_1⟩ := pI_inv h
  obtain ⟨rfl, h_2⟩ := cIf_inv h_1
  cases h_2
  refine ⟨⟨Nat.le_refl _, Nat.le_refl _⟩, fun p l e R s m args below meth c H locs cells slots mc ms real C hK hB hDy hl => ?_⟩
  obtain ⟨hP, hz, hS, b1, b2, b3, b4⟩ := hDy
  refine W.widen (k := mc) (n := ms) (by omega) (by omega) ?_
  exact W.iret C.1 C.2.1 (by rw [C.2.2.1, hr]) (fun t ht hW => ⟨rfl, by rw [ht]; exact hP, aS_F hS ht⟩) (fun q hq => hS.2.2 q hq) hd C.2.2.2.2.2.2.1
theorem sd_retZ {ty : FieldType} (hr : M.2.2.2.1 = some ty) (hn : ∀ x : Int32, narrow ty (.int x) = .int (vp_nar ty x)) (hd : decode M.2.1 pc = .ok (.ireturn, 1)) : aSnd G M pc (oRetZ (vp_nar ty)) := by
  intro call k hc hk ls st σ v σ' h
  obtain ⟨x, r, rfl, h_1⟩ := pI_inv h
  obtain ⟨⟨rfl, hx⟩, h_2⟩ := cIf_inv h_1
  cases h_2
  refine ⟨⟨Nat.le_refl _, Nat.le_refl _⟩, fun p l e R s m args below meth c H locs cells slots mc ms real C hK hB hDy hl => ?_⟩
  obtain ⟨hP, hz, hS, b1, b2, b3, b4⟩ := hDy
  refine W.widen (k := mc) (n := ms) (by omega) (by omega) ?_
  exact W.zret C.1 C.2.1 (by rw [C.2.2.1, hr]) (by rw [hn, hx]) (fun t ht hW => ⟨rfl, by rw [ht]; exact hP, aS_F hS ht⟩) (fun q hq => hS.2.2 q hq) hd C.2.2.2.2.2.2.1
theorem sd_retL (hr : M.2.2.2.1 = some .long) (hd : decode M.2.1 pc = .ok (.lreturn, 1)) : aSnd G M pc oRetL := by
  intro call k hc hk ls st σ v σ' h
  obtain ⟨x, r, rfl, h_1⟩ := pJ_inv h
  obtain ⟨rfl, h_2⟩ := cIf_inv h_1
  cases h_2
  refine ⟨⟨Nat.le_refl _, Nat.le_refl _⟩, fun p l e R s m args below meth c H locs cells slots mc ms real C hK hB hDy hl => ?_⟩
  obtain ⟨hP, hz, hS, b1, b2, b3, b4⟩ := hDy
  refine W.widen (k := mc) (n := ms) (by omega) (by omega) ?_
  exact W.lret C.1 C.2.1 (by rw [C.2.2.1, hr]) (fun t ht hW => ⟨rfl, by rw [ht]; exact hP, aS_F hS ht⟩) (fun q hq => hS.2.2 q hq) hd C.2.2.2.2.2.2.1
theorem sd_retA {n : String} (hr : M.2.2.2.1 = some (.object n)) (hd : decode M.2.1 pc = .ok (.areturn, 1)) : aSnd G M pc oRetA := by
  intro call k hc hk ls st σ v σ' h
  obtain ⟨x, r, rfl, h_1⟩ := pR_inv h
  obtain ⟨rfl, h_2⟩ := cIf_inv h_1
  cases h_2
  refine ⟨⟨Nat.le_refl _, Nat.le_refl _⟩, fun p l e R s m args below meth c H locs cells slots mc ms real C hK hB hDy hl => ?_⟩
  obtain ⟨hP, hz, hS, b1, b2, b3, b4⟩ := hDy
  refine W.widen (k := mc) (n := ms) (by omega) (by omega) ?_
  exact W.aret (rt := .object n) C.1 C.2.1 (by rw [C.2.2.1, hr]) (Or.inl ⟨n, rfl⟩) (Or.inr ⟨_, rfl⟩) (fun t ht hW => ⟨rfl, by rw [ht]; exact hP, aS_F hS ht⟩) (fun q hq => hS.2.2 q hq) hd C.2.2.2.2.2.2.1
theorem sd_retV (hr : M.2.2.2.1 = none) (hd : decode M.2.1 pc = .ok (.return_, 1)) : aSnd G M pc oRetV := by
  intro call k hc hk ls st σ v σ' h
  obtain ⟨rfl, h_1⟩ := cIf_inv h
  cases h_1
  refine ⟨⟨Nat.le_refl _, Nat.le_refl _⟩, fun p l e R s m args below meth c H locs cells slots mc ms real C hK hB hDy hl => ?_⟩
  obtain ⟨hP, hz, hS, b1, b2, b3, b4⟩ := hDy
  refine W.widen (k := mc) (n := ms) (by omega) (by omega) ?_
  exact W.vret C.1 C.2.1 (by rw [C.2.2.1, hr]) (fun t ht hW => ⟨rfl, by rw [ht]; exact hP, aS_F hS ht⟩) (fun q hq => hS.2.2 q hq) hd C.2.2.2.2.2.2.1
theorem sd_no : aSnd G M pc oNo := by
  intro call k hc hk ls st σ v σ' h
  cases h
theorem aCat_T (hs : ∀ u : Nat, (∃ a : Nat, G.2.2.2.1 u = .ref a) ∨ G.2.2.2.1 u = .null) (r : List Value) : ((r.map (aT G)).map fun v => v.category).sum = aCat r := by
  unfold aCat
  rw [List.map_map]
  congr 1
  apply List.map_congr_left
  intro v _
  exact aT_cat hs v
theorem aCallW {p : Program} {l : Launch} {e : Env} {R : Room} {s : State} {m : MethodId} {args : Array Value} {below : List Frame} {meth : Method} {c : Code} {H : Heap} {locs : List Loc} {cells slots mc' ms' : Nat} {Q : State → Prop} {real : Array Slot} {st0 rest : List Value} {arr : Array Value} {v : Option Value} {σ : aSt}
    (hr : va_Run p l e R s m args below meth c H locs cells slots mc' ms' (F0 m pc real st0) rest (aQc G v σ arr) (aBelow G)) (hS : va_S (aBelow G) s.heap H locs)
    (kk : ∀ (H1 : Heap) (locs1 : List Loc), va_P G.2.1 vwCl (aW G σ) H1 → va_S (aBelow G) s.heap H1 locs1 → W p l e R s m args below meth c H1 locs1 (cells + mc') (slots + ms') Q (F0 m (pc + 3) real ((v.map (aT G)).toList ++ rest))) :
    W p l e R s m args below meth c H locs cells slots Q (F0 m pc real st0) := by
  intro T hT X
  obtain ⟨v', st₀, t, T', L, h0, X', hL, e1, e2, ⟨hv, hp, hz, hk⟩, st⟩ := hr T hT X
  cases hv
  rw [h0] at hz hk
  obtain ⟨t2, a1, b1⟩ := kk T'.heap (locs ++ L) (by rw [e1]; exact hp)
    ⟨Nat.le_trans hS.1 (by rw [e1]; exact hz), fun q h1 h2 => by rw [e1, hk q (Nat.lt_of_lt_of_le h1 hS.1) h2]; exact hS.2.1 q h1 h2, fun q hq => by
      rcases List.mem_append.mp hq with h | h
      · exact hS.2.2 q h
      · exact hL q h⟩ T' rfl X'
  exact ⟨t2, st t2 a1, b1⟩
theorem aPc_blind {as : List Value} {σ : aSt} : FrameBlind (aPc G as σ) := by
  intro a U g mk h
  obtain ⟨h1, ⟨h2, h3⟩, h4, h5⟩ := h
  exact ⟨h1, ⟨aKs_warm (U := U.calling g mk a) (State.WarmedH.refl U) h2, aKh_moved (U := U.calling g mk a) (Vm.Alike.refl U.vm) h3⟩, h4, h5⟩
theorem aPc_at {s U : State} {H : Heap} {locs : List Loc} {as : List Value} {σ : aSt} (hK : aKK G s s.heap) (hB : G.1 ≤ s.heap.size) (hS : va_S (aBelow G) s.heap H locs) (hP : va_P G.2.1 vwCl (aW G σ) H) (hz : H.size = G.1 + σ.1) (hU : U.heap = H) (hW : s.WarmedH U.vm) {arr : Array Value} (ha : arr = (as.map (aT G)).toArray) : aPc G as σ arr U := by
  refine ⟨ha, ⟨aKs_warm hW hK.1, ?_⟩, by rw [hU]; exact hP, by rw [hU]; exact hz⟩
  rw [hU]
  exact aKh_kept (fun q hq => hS.2.1 q (by omega) (Nat.not_le.mpr hq)) (aKh_moved hW.alike hK.2)
theorem aGoodC {y : MethodName} {b : ByteArray} {n : Nat} {rt : Option FieldType} (h : Cond.code y b n rt ∈ aTT) : GoodIn aTT (Cond.code y b n rt :: aTT) := fun w hw => by
  rcases List.mem_cons.mp hw with rfl | hw
  · exact aTT_good _ h
  · exact aTT_good _ hw
/-- what a call needs of its callee, by the tables -/
def aCk (M M' : aMI) (na : Nat) : Prop := Cond.code M'.1 M'.2.1 M'.2.2.1 M'.2.2.2.1 ∈ aTT ∧ Cond.initialized M'.1.cls ∈ aTT ∧ (M'.1.cls ≠ "java/lang/invoke/MethodHandle" ∧ M'.1.cls ≠ "java/lang/invoke/VarHandle" ∧ (parseMethodDescriptor M'.1.desc).map (fun d => d.parameters.length) = some na) ∧ M'.2.2.2.2.1 + 1 ≤ M.2.2.2.2.1 ∧ 8 + (M'.2.2.1 + 11) + M'.2.2.2.2.2.1 ≤ M.2.2.2.2.2.1
theorem aSplit {st : List Value} {na : Nat} {x : Value} {r : List Value} (h : st.drop na = x :: r) : st.map (aT G) = (((st.take na).reverse).map (aT G)).reverse ++ aT G x :: r.map (aT G) := by
  rw [List.map_reverse, List.reverse_reverse, ← List.map_cons, ← h, ← List.map_append, List.take_append_drop]
theorem aRetL {v : Option Value} {r : List Value} : (v.map (aT G)).toList ++ r.map (aT G) = (v.toList ++ r).map (aT G) := by
  cases v <;> simp
theorem sd_callV {j na ci index : Nat} {M' : aMI} {C : String} {T : u_T} {N : Nat} {ty : Nat → FieldType} (hj : aM j = M') (hck : aCk M M' na) (hlink : Cond.methodLink M.2.2.2.2.2.2 index M'.1 ∈ aTT) (hinst : Cond.instanceMethod M'.1 ∈ aTT) (hsel : Cond.selects C M'.1 M'.1 ∈ aTT) (hcl : aClOK ci C T N ty) (hd : decode M.2.1 pc = .ok (.invokevirtual index, 3)) : aSnd G M pc (oCallV j na ci (pc + 3)) := by
  intro call k hc hk ls st σ v σ' h
  obtain ⟨b, r, hst, h_1⟩ := pR_inv h
  obtain ⟨⟨hlen, hb, hbk, hcat⟩, h_2⟩ := cIf_inv h_1
  obtain ⟨v1, σ1, h1, h_3⟩ := aRet_inv h_2
  obtain ⟨hm, hw⟩ := hk _ _ _ _ _ _ h_3
  have hmet := hc _ _ _ _ _ h1
  rw [hj] at hmet
  obtain ⟨hg1, hM⟩ := hmet
  obtain ⟨k1, k2, k3, k4, k5⟩ := hck
  obtain ⟨c1, c2, c3, c4, c5, c6⟩ := hcl
  refine ⟨⟨Nat.le_trans hg1.1 hm.1, Nat.le_trans hg1.2 hm.2⟩, fun p l e R s m args below meth c H locs cells slots mc ms real C hK hB hDy hl => ?_⟩
  obtain ⟨hP, hz, hS, b1, b2, b3, b4⟩ := hDy
  have hm1 := hm.1
  have hm2 := hm.2
  have hg1a := hg1.1
  have hg1b := hg1.2
  refine W_sz (fun hsz => ?_)
  have hlow := aLow hP (Nat.le_trans hB hS.1)
  have hsize : H.size = G.1 + σ.1 := by omega
  have hts := C.2.2.2.2.2.1
  have hfr := C.2.2.2.2.2.2.2.2.1
  have hlo := C.2.2.2.2.2.2.2.2.2
  obtain ⟨hl0, l', hlv, hl2⟩ := hl
  refine aCallW (va_runV (g := F0 m pc real (st.map (aT G))) (b := G.1 + b) (As := ((st.take na).reverse).map (aT G)) (rest := r.map (aT G)) (Ts := aTT) ⟨C.1, C.2.1, C.2.2.2.1, C.2.2.2.2.1, hts⟩ (hM l) ⟨callB_of na hts (aGoodC k1) rfl rfl rfl (hts _ k2) (hts _ hlink) k3 ⟨by show M'.2.2.2.2.1 + 1 ≤ R.frames; omega, by show 8 + (M'.2.2.1 + 11) + M'.2.2.2.2.2.1 ≤ R.locals; omega⟩, hts _ hinst, hts _ hsel⟩ ⟨aPc_blind, va_recv hK.1.1 hP c1 (by rw [aW_get hb, aE_obj hbk c3]), fun U hU hW => aPc_at hK hB hS hP hsize hU hW (by simp [aT])⟩ rfl (by simpa using hlen) hlv.1 (aSplit hst) (lv_room (by rw [aCat_T hK.1.2.2.2.2]; exact hcat)) hd ⟨by omega, by omega⟩) hS (fun H1 locs1 hP1 hS1 => ?_)
  rw [aRetL]
  exact hw p l e R s m args below meth c H1 locs1 _ _ mc ms real C hK hB ⟨hP1, by omega, hS1, by omega, by omega, b3, b4⟩ ⟨hl0, l', hlv, hl2⟩
theorem sd_callI {j na index : Nat} {M' : aMI} (hj : aM j = M') (hck : aCk M M' na) (hret : M'.2.2.2.1 = none) (hnm : M'.1.name = "<init>") (hlink : Cond.methodLink M.2.2.2.2.2.2 index M'.1 ∈ aTT) (hinst : Cond.instanceMethod M'.1 ∈ aTT) (hd : decode M.2.1 pc = .ok (.invokespecial index, 3)) : aSnd G M pc (oCallI j na (pc + 3)) := by
  intro call k hc hk ls st σ v σ' h
  obtain ⟨b, r, hst, h_1⟩ := pR_inv h
  obtain ⟨⟨hlen, hcat⟩, h_2⟩ := cIf_inv h_1
  obtain ⟨v1, σ1, h1, h_3⟩ := aRet_inv h_2
  obtain ⟨hm, hw⟩ := hk _ _ _ _ _ _ h_3
  have hmet := hc _ _ _ _ _ h1
  rw [hj] at hmet
  obtain ⟨hg1, hM⟩ := hmet
  obtain ⟨k1, k2, k3, k4, k5⟩ := hck
  rw [hret] at hM k1
  refine ⟨⟨Nat.le_trans hg1.1 hm.1, Nat.le_trans hg1.2 hm.2⟩, fun p l e R s m args below meth c H locs cells slots mc ms real C hK hB hDy hl => ?_⟩
  obtain ⟨hP, hz, hS, b1, b2, b3, b4⟩ := hDy
  have hm1 := hm.1
  have hm2 := hm.2
  have hg1a := hg1.1
  have hg1b := hg1.2
  refine W_sz (fun hsz => ?_)
  have hlow := aLow hP (Nat.le_trans hB hS.1)
  have hsize : H.size = G.1 + σ.1 := by omega
  have hts := C.2.2.2.2.2.1
  have hfr := C.2.2.2.2.2.2.2.2.1
  have hlo := C.2.2.2.2.2.2.2.2.2
  obtain ⟨hl0, l', hlv, hl2⟩ := hl
  refine aCallW (va_runI (g := F0 m pc real (st.map (aT G))) (b := G.1 + b) (As := ((st.take na).reverse).map (aT G)) (rest := r.map (aT G)) (Ts := aTT) ⟨C.1, C.2.1, C.2.2.2.1, C.2.2.2.2.1, hts⟩ (hM l) ⟨callB_of na hts (aGoodC k1) rfl rfl rfl (hts _ k2) (hts _ hlink) k3 ⟨by show M'.2.2.2.2.1 + 1 ≤ R.frames; omega, by show 8 + (M'.2.2.1 + 11) + M'.2.2.2.2.2.1 ≤ R.locals; omega⟩, hnm, hts _ hinst⟩ ⟨aPc_blind, fun U hU hW => aPc_at hK hB hS hP hsize hU hW (by simp [aT])⟩ rfl (by simpa using hlen) hlv.1 (aSplit hst) (lv_room (by rw [aCat_T hK.1.2.2.2.2]; exact hcat)) hd ⟨by omega, by omega⟩) hS (fun H1 locs1 hP1 hS1 => ?_)
  rw [aRetL]
  exact hw p l e R s m args below meth c H1 locs1 _ _ mc ms real C hK hB ⟨hP1, by omega, hS1, by omega, by omega, b3, b4⟩ ⟨hl0, l', hlv, hl2⟩
theorem sd_callN {j na index : Nat} {M' : aMI} {host : String} (hj : aM j = M') (hck : aCk M M' na) (hret : M'.2.2.2.1 = none) (hnm : M'.1.name = "<init>") (hlink : Cond.methodLinkNest M.2.2.2.2.2.2 index M'.1 host ∈ aNst) (hinst : Cond.instanceMethod M'.1 ∈ aTT) (hd : decode M.2.1 pc = .ok (.invokespecial index, 3)) : aSnd G M pc (oCallI j na (pc + 3)) := by
  intro call k hc hk ls st σ v σ' h
  obtain ⟨b, r, hst, h_1⟩ := pR_inv h
  obtain ⟨⟨hlen, hcat⟩, h_2⟩ := cIf_inv h_1
  obtain ⟨v1, σ1, h1, h_3⟩ := aRet_inv h_2
  obtain ⟨hm, hw⟩ := hk _ _ _ _ _ _ h_3
  have hmet := hc _ _ _ _ _ h1
  rw [hj] at hmet
  obtain ⟨hg1, hM⟩ := hmet
  obtain ⟨k1, k2, k3, k4, k5⟩ := hck
  rw [hret] at hM k1
  refine ⟨⟨Nat.le_trans hg1.1 hm.1, Nat.le_trans hg1.2 hm.2⟩, fun p l e R s m args below meth c H locs cells slots mc ms real C hK hB hDy hl => ?_⟩
  obtain ⟨hP, hz, hS, b1, b2, b3, b4⟩ := hDy
  have hm1 := hm.1
  have hm2 := hm.2
  have hg1a := hg1.1
  have hg1b := hg1.2
  refine W_sz (fun hsz => ?_)
  have hlow := aLow hP (Nat.le_trans hB hS.1)
  have hsize : H.size = G.1 + σ.1 := by omega
  have hts := C.2.2.2.2.2.1
  have hfr := C.2.2.2.2.2.2.2.2.1
  have hlo := C.2.2.2.2.2.2.2.2.2
  obtain ⟨hl0, l', hlv, hl2⟩ := hl
  refine aCallW (va_runIN (g := F0 m pc real (st.map (aT G))) (b := G.1 + b) (As := ((st.take na).reverse).map (aT G)) (rest := r.map (aT G)) (Ts := aTT) ⟨C.1, C.2.1, C.2.2.2.1, C.2.2.2.2.1, hts⟩ (hM l) ⟨va_cnB na hts (aGoodC k1) rfl rfl rfl (hK.1.2.1 _ hlink) (hts _ k2) k3 ⟨by show M'.2.2.2.2.1 + 1 ≤ R.frames; omega, by show 8 + (M'.2.2.1 + 11) + M'.2.2.2.2.2.1 ≤ R.locals; omega⟩, hnm, hts _ hinst⟩ ⟨aPc_blind, fun U hU hW => aPc_at hK hB hS hP hsize hU hW (by simp [aT])⟩ rfl (by simpa using hlen) hlv.1 (aSplit hst) (lv_room (by rw [aCat_T hK.1.2.2.2.2]; exact hcat)) hd ⟨by omega, by omega⟩) hS (fun H1 locs1 hP1 hS1 => ?_)
  rw [aRetL]
  exact hw p l e R s m args below meth c H1 locs1 _ _ mc ms real C hK hB ⟨hP1, by omega, hS1, by omega, by omega, b3, b4⟩ ⟨hl0, l', hlv, hl2⟩
theorem sd_callS {j na index : Nat} {M' : aMI} (hj : aM j = M') (hck : aCk M M' na) (hlink : Cond.methodLink M.2.2.2.2.2.2 index M'.1 ∈ aTT) (hstat : Cond.static M'.1 ∈ aTT) (hd : decode M.2.1 pc = .ok (.invokestatic index, 3)) : aSnd G M pc (oCallS j na (pc + 3)) := by
  intro call k hc hk ls st σ v σ' h
  obtain ⟨⟨hlen, hcat⟩, h_1⟩ := cIf_inv h
  obtain ⟨v1, σ1, h1, h_2⟩ := aRet_inv h_1
  obtain ⟨hm, hw⟩ := hk _ _ _ _ _ _ h_2
  have hmet := hc _ _ _ _ _ h1
  rw [hj] at hmet
  obtain ⟨hg1, hM⟩ := hmet
  obtain ⟨k1, k2, k3, k4, k5⟩ := hck
  refine ⟨⟨Nat.le_trans hg1.1 hm.1, Nat.le_trans hg1.2 hm.2⟩, fun p l e R s m args below meth c H locs cells slots mc ms real C hK hB hDy hl => ?_⟩
  obtain ⟨hP, hz, hS, b1, b2, b3, b4⟩ := hDy
  have hm1 := hm.1
  have hm2 := hm.2
  have hg1a := hg1.1
  have hg1b := hg1.2
  refine W_sz (fun hsz => ?_)
  have hlow := aLow hP (Nat.le_trans hB hS.1)
  have hsize : H.size = G.1 + σ.1 := by omega
  have hts := C.2.2.2.2.2.1
  have hfr := C.2.2.2.2.2.2.2.2.1
  have hlo := C.2.2.2.2.2.2.2.2.2
  obtain ⟨hl0, l', hlv, hl2⟩ := hl
  have hst : st.map (aT G) = (((st.take na).reverse).map (aT G)).reverse ++ (st.drop na).map (aT G) := by
    rw [List.map_reverse, List.reverse_reverse, ← List.map_append, List.take_append_drop]
  refine aCallW (va_runS (g := F0 m pc real (st.map (aT G))) (As := ((st.take na).reverse).map (aT G)) (rest := (st.drop na).map (aT G)) (Ts := aTT) ⟨C.1, C.2.1, C.2.2.2.1, C.2.2.2.2.1, hts⟩ (hM l) ⟨callB_of na hts (aGoodC k1) rfl rfl rfl (hts _ k2) (hts _ hlink) k3 ⟨by show M'.2.2.2.2.1 + 1 ≤ R.frames; omega, by show 8 + (M'.2.2.1 + 11) + M'.2.2.2.2.2.1 ≤ R.locals; omega⟩, hts _ hstat⟩ ⟨aPc_blind, fun U hU hW => aPc_at hK hB hS hP hsize hU hW rfl⟩ rfl (by simpa using hlen) hlv.1 hst (lv_room (by rw [aCat_T hK.1.2.2.2.2]; exact hcat)) hd ⟨by omega, by omega⟩) hS (fun H1 locs1 hP1 hS1 => ?_)
  rw [aRetL]
  exact hw p l e R s m args below meth c H1 locs1 _ _ mc ms real C hK hB ⟨hP1, by omega, hS1, by omega, by omega, b3, b4⟩ ⟨hl0, l', hlv, hl2⟩
theorem sd_callF {j na index : Nat} {M' : aMI} (hj : aM j = M') (hck : aCk M M' na) (hlink : Cond.methodLink M.2.2.2.2.2.2 index M'.1 ∈ aTT) (hinst : Cond.instanceMethod M'.1 ∈ aTT) (hsel : Cond.selects "java/lang/String" M'.1 M'.1 ∈ aTT) (hd : decode M.2.1 pc = .ok (.invokevirtual index, 3)) : aSnd G M pc (oCallF j na (pc + 3)) := by
  intro call k hc hk ls st σ v σ' h
  obtain ⟨b, r, hst, h_1⟩ := pF_inv h
  obtain ⟨⟨hlen, hb, hcat⟩, h_2⟩ := cIf_inv h_1
  obtain ⟨v1, σ1, h1, h_3⟩ := aRet_inv h_2
  obtain ⟨hm, hw⟩ := hk _ _ _ _ _ _ h_3
  have hmet := hc _ _ _ _ _ h1
  rw [hj] at hmet
  obtain ⟨hg1, hM⟩ := hmet
  obtain ⟨k1, k2, k3, k4, k5⟩ := hck
  refine ⟨⟨Nat.le_trans hg1.1 hm.1, Nat.le_trans hg1.2 hm.2⟩, fun p l e R s m args below meth c H locs cells slots mc ms real C hK hB hDy hl => ?_⟩
  obtain ⟨hP, hz, hS, b1, b2, b3, b4⟩ := hDy
  have hm1 := hm.1
  have hm2 := hm.2
  have hg1a := hg1.1
  have hg1b := hg1.2
  refine W_sz (fun hsz => ?_)
  have hlow := aLow hP (Nat.le_trans hB hS.1)
  have hsize : H.size = G.1 + σ.1 := by omega
  have hts := C.2.2.2.2.2.1
  have hfr := C.2.2.2.2.2.2.2.2.1
  have hlo := C.2.2.2.2.2.2.2.2.2
  obtain ⟨hl0, l', hlv, hl2⟩ := hl
  subst hb
  obtain ⟨-, ⟨a1, a2, ha1, ha2, hvk⟩, -, -⟩ := id hK.2
  have hT1 : aT G (.float 1) = .ref a1 := ha1
  have hst2 := aSplit (G := G) hst
  rw [hT1] at hst2
  refine aCallW (va_runV (g := F0 m pc real (st.map (aT G))) (C := "java/lang/String") (b := a1) (As := ((st.take na).reverse).map (aT G)) (rest := r.map (aT G)) (Ts := aTT) ⟨C.1, C.2.1, C.2.2.2.1, C.2.2.2.2.1, hts⟩ (hM l) ⟨callB_of na hts (aGoodC k1) rfl rfl rfl (hts _ k2) (hts _ hlink) k3 ⟨by show M'.2.2.2.2.1 + 1 ≤ R.frames; omega, by show 8 + (M'.2.2.1 + 11) + M'.2.2.2.2.2.1 ≤ R.locals; omega⟩, hts _ hinst, hts _ hsel⟩ ⟨aPc_blind, vk_recv hvk (i := 0) (by decide) hS, fun U hU hW => aPc_at hK hB hS hP hsize hU hW (by rw [List.map_cons, hT1])⟩ rfl (by simpa using hlen) hlv.1 hst2 (lv_room (by rw [aCat_T hK.1.2.2.2.2]; exact hcat)) hd ⟨by omega, by omega⟩) hS (fun H1 locs1 hP1 hS1 => ?_)
  rw [aRetL]
  exact hw p l e R s m args below meth c H1 locs1 _ _ mc ms real C hK hB ⟨hP1, by omega, hS1, by omega, by omega, b3, b4⟩ ⟨hl0, l', hlv, hl2⟩
theorem sd_obj {index : Nat} (hlink : Cond.methodLink M.2.2.2.2.2.2 index objectInit ∈ aTT) (hfr : 1 ≤ M.2.2.2.2.1) (hlo : 20 ≤ M.2.2.2.2.2.1) (hd : decode M.2.1 pc = .ok (.invokespecial index, 3)) : aSnd G M pc (oObj (pc + 3)) := by
  intro call k hc hk ls st σ v σ' h
  obtain ⟨b, r, rfl, h_1⟩ := pR_inv h
  obtain ⟨hcat, h_2⟩ := cIf_inv h_1
  refine aPP_sk (hk _ _ _ _ _ _ h_2) (fun p l e R s m args below meth c H locs cells slots mc ms Q real C hK hB hDy hl hw => ?_)
  have hts := C.2.2.2.2.2.1
  have hf := C.2.2.2.2.2.2.2.2.1
  have hlc := C.2.2.2.2.2.2.2.2.2
  obtain ⟨hl0, l', hlv, hl2⟩ := hl
  have hro : ((r.map (aT G)).map fun v => v.category).sum ≤ 8 := by rw [aCat_T hK.1.2.2.2.2]; exact hcat
  refine W.objInit C.1 C.2.1 C.2.2.2.2.1 (hts _ hlink) (hts _ wI_OBJ) (hts _ wC_OBJ) (g := F0 m pc real (Value.ref (G.1 + b) :: r.map (aT G))) rfl (by rw [C.2.2.2.1]; exact hlv.1) rfl hd (by omega) (by show 2 * 0 + _ + 12 ≤ _; omega) hw
theorem sd_slen (hd : decode M.2.1 pc = .ok (.arraylength, 1)) : aSnd G M pc (oSlen G.2.2.2.2.1 (pc + 1)) := by
  intro call k hc hk ls st σ v σ' h
  obtain ⟨a, r, rfl, h_1⟩ := pF_inv h
  obtain ⟨rfl, h_2⟩ := cIf_inv h_1
  refine aPP_sk (hk _ _ _ _ _ _ h_2) (fun p l e R s m args below meth c H locs cells slots mc ms Q real C hK hB hDy hl hw => ?_)
  obtain ⟨⟨b, h1, h2, h3⟩, -⟩ := hK.2
  have e2 : List.map (aT G) (Value.float 0 :: r) = Value.ref b :: r.map (aT G) := by rw [List.map_cons]; congr 1
  rw [e2]
  exact va_slen C.1 C.2.1 h2 (by omega) (Nat.not_le.mpr h3) hDy.2.2.1 hd hw
theorem sd_sld (hd : decode M.2.1 pc = .ok (.iaload, 1)) : aSnd G M pc (oSld G.2.2.2.2.2 G.2.2.2.2.1 (pc + 1)) := by
  intro call k hc hk ls st σ v σ' h
  obtain ⟨i, r, rfl, h_1⟩ := pI_inv h
  obtain ⟨a, r, rfl, h_2⟩ := pF_inv h_1
  obtain ⟨⟨rfl, hi⟩, h_3⟩ := cIf_inv h_2
  refine aPP_sk (hk _ _ _ _ _ _ h_3) (fun p l e R s m args below meth c H locs cells slots mc ms Q real C hK hB hDy hl hw => ?_)
  obtain ⟨⟨b, h1, h2, h3⟩, -⟩ := hK.2
  have e2 : List.map (aT G) (Value.int i :: Value.float 0 :: r) = Value.int i :: Value.ref b :: r.map (aT G) := by rw [List.map_cons, List.map_cons]; congr 2
  rw [e2]
  exact va_sld C.1 C.2.1 h2 (by omega) (Nat.not_le.mpr h3) hDy.2.2.1 hi hd hw
theorem sd_ldcS (hM : M.2.2.2.2.2.2 = RX8) (hd : decode M.2.1 pc = .ok (.ldc 141, 2)) : aSnd G M pc (oPush (.float 1) (pc + 2)) := by
  intro call k hc hk ls st σ v σ' h
  refine aPP_sk (hk _ _ _ _ _ _ h) (fun p l e R s m args below meth c H locs cells slots mc ms Q real C hK hB hDy hl hw => ?_)
  obtain ⟨a1, h1, h2⟩ := hK.1.2.2.2.1
  have e2 : List.map (aT G) (Value.float 1 :: st) = Value.ref a1 :: st.map (aT G) := by rw [List.map_cons]; congr 1
  rw [e2] at hw
  exact va_ldcS C.1 C.2.1 (by rw [← hM]; exact C.2.2.2.2.1) h2 hd hw
theorem sd_tval {index : Nat} (hlink : Cond.fieldLink M.2.2.2.2.2.2 index "java/lang/String" "value" "[B" ∈ aTT) (hd : decode M.2.1 pc = .ok (.getfield index, 3)) : aSnd G M pc (oTval (pc + 3)) := by
  intro call k hc hk ls st σ v σ' h
  obtain ⟨a, r, rfl, h_1⟩ := pF_inv h
  obtain ⟨rfl, h_2⟩ := cIf_inv h_1
  refine aPP_sk (hk _ _ _ _ _ _ h_2) (fun p l e R s m args below meth c H locs cells slots mc ms Q real C hK hB hDy hl hw => ?_)
  obtain ⟨-, ⟨a1, a2, h1, h2, h3⟩, -⟩ := hK.2
  have e1 : List.map (aT G) (Value.float 1 :: r) = Value.ref a1 :: r.map (aT G) := by rw [List.map_cons]; congr 1
  have e2 : List.map (aT G) (Value.float 2 :: r) = Value.ref a2 :: r.map (aT G) := by rw [List.map_cons]; congr 1
  rw [e2] at hw
  rw [e1]
  exact vk_getf C.1 C.2.1 (h3.1 0 (by decide)).2.2.1 hDy.2.2.1 C.2.2.2.2.1 (C.2.2.2.2.2.1 _ hlink) (fun _ h => h) hd hw
theorem sd_tcod {index : Nat} (hlink : Cond.fieldLink M.2.2.2.2.2.2 index "java/lang/String" "coder" "B" ∈ aTT) (hd : decode M.2.1 pc = .ok (.getfield index, 3)) : aSnd G M pc (oTcod (pc + 3)) := by
  intro call k hc hk ls st σ v σ' h
  obtain ⟨a, r, rfl, h_1⟩ := pF_inv h
  obtain ⟨rfl, h_2⟩ := cIf_inv h_1
  refine aPP_sk (hk _ _ _ _ _ _ h_2) (fun p l e R s m args below meth c H locs cells slots mc ms Q real C hK hB hDy hl hw => ?_)
  obtain ⟨-, ⟨a1, a2, h1, h2, h3⟩, -⟩ := hK.2
  have e1 : List.map (aT G) (Value.float 1 :: r) = Value.ref a1 :: r.map (aT G) := by rw [List.map_cons]; congr 1
  rw [e1]
  exact vk_getf C.1 C.2.1 (h3.1 0 (by decide)).2.1 hDy.2.2.1 C.2.2.2.2.1 (C.2.2.2.2.2.1 _ hlink) (fun _ h => h) hd hw
theorem sd_tlen (hd : decode M.2.1 pc = .ok (.arraylength, 1)) : aSnd G M pc (oTlen 128 (pc + 1)) := by
  intro call k hc hk ls st σ v σ' h
  obtain ⟨a, r, rfl, h_1⟩ := pF_inv h
  obtain ⟨rfl, h_2⟩ := cIf_inv h_1
  refine aPP_sk (hk _ _ _ _ _ _ h_2) (fun p l e R s m args below meth c H locs cells slots mc ms Q real C hK hB hDy hl hw => ?_)
  obtain ⟨-, ⟨a1, a2, h1, h2, h3⟩, -⟩ := hK.2
  have e1 : List.map (aT G) (Value.float 2 :: r) = Value.ref a2 :: r.map (aT G) := by rw [List.map_cons]; congr 1
  rw [e1]
  exact va_tlen C.1 C.2.1 (h3.1 0 (by decide)).2.2.2 hDy.2.2.1 rfl hd hw
theorem aBy_len : aBy.length = 128 := by decide +kernel
theorem sd_tld (hd : decode M.2.1 pc = .ok (.baload, 1)) : aSnd G M pc (oTld aBy (pc + 1)) := by
  intro call k hc hk ls st σ v σ' h
  obtain ⟨i, r, rfl, h_1⟩ := pI_inv h
  obtain ⟨a, r, rfl, h_2⟩ := pF_inv h_1
  obtain ⟨⟨rfl, hi⟩, h_3⟩ := cIf_inv h_2
  refine aPP_sk (hk _ _ _ _ _ _ h_3) (fun p l e R s m args below meth c H locs cells slots mc ms Q real C hK hB hDy hl hw => ?_)
  obtain ⟨-, ⟨a1, a2, h1, h2, h3⟩, -⟩ := hK.2
  have e1 : List.map (aT G) (Value.int i :: Value.float 2 :: r) = Value.int i :: Value.ref a2 :: r.map (aT G) := by rw [List.map_cons, List.map_cons]; congr 2
  rw [e1]
  rw [aBy_len] at hi
  have hT := (h3.1 0 (by decide)).2.2.2
  simp only [List.getD_cons_zero] at hT
  exact va_tb (v := .int (aBy.getD i.toNatClampNeg 0)) C.1 C.2.1 hT hDy.2.2.1 hi rfl hd hw
theorem sd_gsC {index : Nat} (hlink : Cond.fieldLink M.2.2.2.2.2.2 index "java/lang/String" "COMPACT_STRINGS" "Z" ∈ aTT) (hd : decode M.2.1 pc = .ok (.getstatic index, 3)) : aSnd G M pc (oPush (.int 1) (pc + 3)) := by
  intro call k hc hk ls st σ v σ' h
  exact aPP_sk (hk _ _ _ _ _ _ h) (fun p l e R s m args below meth c H locs cells slots mc ms Q real C hK hB hDy hl hw => va_gets C.1 C.2.1 hK.2.2.2.1 hDy.2.2.1 C.2.2.2.2.1 (C.2.2.2.2.2.1 _ hlink) (fun _ h => h) hd hw)
theorem sd_gsF {index : Nat} (hlink : Cond.fieldLink M.2.2.2.2.2.2 index "jdk/internal/util/Preconditions" "SIOOBE_FORMATTER" "Ljava/util/function/BiFunction;" ∈ aTT) (hd : decode M.2.1 pc = .ok (.getstatic index, 3)) : aSnd G M pc (oPush (.float 3) (pc + 3)) := by
  intro call k hc hk ls st σ v σ' h
  exact aPP_sk (hk _ _ _ _ _ _ h) (fun p l e R s m args below meth c H locs cells slots mc ms Q real C hK hB hDy hl hw => va_gets C.1 C.2.1 hK.2.2.2.2 hDy.2.2.1 C.2.2.2.2.1 (C.2.2.2.2.2.1 _ hlink) (fun _ h => h) hd hw)
end CL
