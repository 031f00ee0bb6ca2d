/-! ===== new int[n][m]: the rows are made one behind another ===== -/
def mC (cI : ClassId) (m : Nat) : Cell := { cls := cI, slots := Array.replicate m (.int 0), vm := .none }
def mO (cA : ClassId) (n b i : Nat) : Cell := arrV cA n (fun j => va_rf (if j < i then some (b + 1 + j) else none))
def mF (T : State) (cA cI : ClassId) (n m : Nat) : Nat → State
  | 0 => T.pushCell (mO cA n T.heap.size 0)
  | i + 1 => ((mF T cA cI n m i).pushCell (mC cI m)).setCell T.heap.size (mO cA n T.heap.size (i + 1))
theorem mO_cls (cA : ClassId) (n b i : Nat) : (mO cA n b i).cls = cA ∧ (mO cA n b i).vm = .none ∧ (mO cA n b i).slots.size = n := ⟨rfl, rfl, arrV_size _ _ _⟩
theorem mO_zero (cA : ClassId) (n b : Nat) : ({ cls := cA, slots := Array.replicate n .null, vm := .none } : Cell) = mO cA n b 0 := by
  rw [arrV_new]
  unfold mO
  congr 1
theorem mO_succ (cA : ClassId) (n b i : Nat) : (mO cA n b i).setSlot i (.ref (b + 1 + i)) = mO cA n b (i + 1) := by
  unfold mO
  rw [arrV_store]
  congr 1
  funext j
  by_cases h : j = i
  · subst h
    simp [updV, va_rf]
  · by_cases h2 : j < i
    · simp [updV, h, h2, Nat.lt_succ_of_lt h2]
    · simp [updV, h, h2, show ¬ j < i + 1 by omega]
theorem mF_sz (T : State) (cA cI : ClassId) (n m : Nat) : ∀ i, (mF T cA cI n m i).heap.size = T.heap.size + 1 + i ∧ (mF T cA cI n m i).heap[T.heap.size]? = some (mO cA n T.heap.size i) ∧ (mF T cA cI n m i).vm = T.vm ∧ (mF T cA cI n m i).slotsUsed = T.slotsUsed + n + i * m
  | 0 => ⟨by simp [mF], by simp [mF], rfl, by simp [mF, (mO_cls cA n T.heap.size 0).2.2]⟩
  | i + 1 => by
    obtain ⟨h1, h2, h3, h4⟩ := mF_sz T cA cI n m i
    have hb : ((mF T cA cI n m i).pushCell (mC cI m)).heap[T.heap.size]? = some (mO cA n T.heap.size i) := by
      have hlt : T.heap.size < (mF T cA cI n m i).heap.size := by rw [h1]; omega
      rw [State.heap_pushCell_of_lt (h := hlt)]
      exact h2
    refine ⟨?_, State.heap_setCell_self hb, by simp [mF, h3], ?_⟩
    · simp [mF, State.setCell, h1]
      omega
    · simp [mF, h4, mC, Nat.succ_mul]
      omega
theorem mF_old (T : State) (cA cI : ClassId) (n m : Nat) {a : Addr} (ha : a < T.heap.size) : ∀ i, (mF T cA cI n m i).heap[a]? = T.heap[a]?
  | 0 => State.heap_pushCell_of_lt _ _ ha
  | i + 1 => by
    have h1 := (mF_sz T cA cI n m i).1
    show (((mF T cA cI n m i).pushCell (mC cI m)).setCell T.heap.size _).heap[a]? = _
    have hlt : a < (mF T cA cI n m i).heap.size := Nat.lt_of_lt_of_le ha (by rw [h1]; omega)
    rw [State.heap_setCell_other (Nat.ne_of_gt ha), State.heap_pushCell_of_lt (h := hlt)]
    exact mF_old T cA cI n m ha i
theorem mF_row (T : State) (cA cI : ClassId) (n m : Nat) : ∀ i j, j < i → (mF T cA cI n m i).heap[T.heap.size + 1 + j]? = some (mC cI m)
  | 0, j, h => absurd h (Nat.not_lt_zero j)
  | i + 1, j, h => by
    have h1 := (mF_sz T cA cI n m i).1
    show (((mF T cA cI n m i).pushCell (mC cI m)).setCell T.heap.size _).heap[T.heap.size + 1 + j]? = _
    rw [State.heap_setCell_other (show T.heap.size ≠ T.heap.size + 1 + j by omega)]
    by_cases hj : j < i
    · have hlt : T.heap.size + 1 + j < (mF T cA cI n m i).heap.size := by rw [h1]; omega
      rw [State.heap_pushCell_of_lt (h := hlt)]
      exact mF_row T cA cI n m i j hj
    · rw [show T.heap.size + 1 + j = (mF T cA cI n m i).heap.size by omega]
      exact State.heap_pushCell_size _ _
theorem mF_top (T : State) (f : JFrame) (cA cI : ClassId) (n m : Nat) : ∀ i, mF (T.setTop f) cA cI n m i = (mF T cA cI n m i).setTop f
  | 0 => rfl
  | i + 1 => by simp only [mF, mF_top T f cA cI n m i, State.heap_setTop, State.pushCell_setTop, State.setCell_setTop]
section MUL
variable {p : Program} {l : Launch} {e : Env} {R : Room} {s : State} {m : MethodId} {args : Array Value} {below : List Frame} {meth : Method} {c : Code} {T : State} {locs : List Loc} {cells slots : Nat}
theorem mF_stand (X : Stand p l e R s m args below meth c T locs cells slots) (cA cI : ClassId) (n k : Nat) : ∀ i, Stand p l e R s m args below meth c (mF T cA cI n k i) (locs ++ (List.range i).map fun j => ⟨T.heap.size, j⟩) (cells + 1 + i) (slots + n + i * k)
  | 0 => by
    have h := X.pushed (mO cA n T.heap.size 0)
    rw [(mO_cls cA n T.heap.size 0).2.2] at h
    simpa [mF] using h
  | i + 1 => by
    have Xi := mF_stand X cA cI n k i
    obtain ⟨h1, h2, -, -⟩ := mF_sz T cA cI n k i
    have hc : ((mF T cA cI n k i).pushCell (mC cI k)).heap[T.heap.size]? = some (mO cA n T.heap.size i) := by
      have hlt : T.heap.size < (mF T cA cI n k i).heap.size := by rw [h1]; omega
      rw [State.heap_pushCell_of_lt (h := hlt)]
      exact h2
    have h := (Xi.pushed (mC cI k)).stored hc i (.ref (T.heap.size + 1 + i))
    rw [mO_succ, show (mC cI k).slots.size = k by simp [mC]] at h
    have e1 : (locs ++ (List.range (i + 1)).map fun j => (⟨T.heap.size, j⟩ : Loc)) = (locs ++ (List.range i).map fun j => (⟨T.heap.size, j⟩ : Loc)) ++ [⟨T.heap.size, i⟩] := by
      rw [List.range_succ, List.map_append, ← List.append_assoc]
      rfl
    rw [e1, show slots + n + (i + 1) * k = slots + n + i * k + k by rw [Nat.succ_mul]; omega]
    exact h
end MUL
section MW
variable {E : CtlPost} {e : Env} {d : Bool} {acts : List Action} {s : State}
theorem mW_new {c comp : ClassId} {k : Class} {type : FieldType} {len : Nat} {init : Value} (hk : s.vm.classes[c]? = some k) (hkind : k.kind = .array comp type) (hl : ¬ len > e.platform.arrayLengthLimit) (hh : ¬ len * componentBytes type > e.platform.maxHeapBytes) (hf : fits type init = true) (hd : init.isDefault = true) {Q : Addr → Pre} (h1 : s.heap.size < e.platform.maxCells) (h2 : s.slotsUsed + len ≤ e.platform.maxSlots) (hq : Q s.heap.size d acts (s.pushCell { cls := c, slots := Array.replicate len init, vm := .none })) : wp (Jvm.newArray c len init) Q E e d acts s := by
  have ha : allocActs (Array.replicate len init) s.heap.size acts = acts := by
    unfold allocActs
    rw [if_pos]
    rw [Array.all_replicate]
    split
    · rfl
    · exact hd
  have hfs : ∀ i v, (Array.replicate len init)[i]? = some v → s.fitsSlot c .none i v = true := fun i v hv => by
    rw [Array.getElem?_replicate] at hv
    split at hv
    · cases hv
      simp [State.fitsSlot, State.slotType?, hk, hkind, hf]
    · cases hv
  simp only [Jvm.newArray, Jvm.arrayFits, wp_bind', W.ask, W.ite, hl, if_false, wp_pure', W.theClass, hk, hkind, hh, W.alloc, W.stop, Option.some.injEq, exists_eq_left', Array.size_replicate, ha]
  rw [if_neg (by omega)]
  exact ⟨h1, h2, hfs, hq⟩
theorem mW_row {cI cc : ClassId} {kI : Class} {k : Int32} (hkI : s.vm.classes[cI]? = some kI) (hkd : kI.kind = .array cc .int) (hk : ¬ k < 0) (hl : ¬ k.toNatClampNeg > e.platform.arrayLengthLimit) (hh : ¬ k.toNatClampNeg * 4 > e.platform.maxHeapBytes) {Q : Addr → Pre} (h1 : s.heap.size < e.platform.maxCells) (h2 : s.slotsUsed + k.toNatClampNeg ≤ e.platform.maxSlots) (hq : Q s.heap.size d acts (s.pushCell (mC cI k.toNatClampNeg))) : wp (Op.multianewarray.make cI [k]) Q E e d acts s := by
  rw [Op.multianewarray.make]
  simp only [wp_bind', W.ite, hk, if_false, wp_pure', W.theClass, hkI, hkd, Option.some.injEq, exists_eq_left']
  exact mW_new hkI hkd hl hh rfl rfl h1 h2 hq
theorem mW_all {cA cI cc : ClassId} {kA kI : Class} {n k : Int32} (hkA : s.vm.classes[cA]? = some kA) (hkdA : kA.kind = .array cI (.array .int)) (hkI : s.vm.classes[cI]? = some kI) (hkd : kI.kind = .array cc .int) (hn : ¬ n < 0) (hk : ¬ k < 0) (hl1 : ¬ n.toNatClampNeg > e.platform.arrayLengthLimit) (hh1 : ¬ n.toNatClampNeg * 4 > e.platform.maxHeapBytes) (hl2 : ¬ k.toNatClampNeg > e.platform.arrayLengthLimit) (hh2 : ¬ k.toNatClampNeg * 4 > e.platform.maxHeapBytes) (hc : s.heap.size + 1 + n.toNatClampNeg ≤ e.platform.maxCells) (hs : s.slotsUsed + n.toNatClampNeg + n.toNatClampNeg * k.toNatClampNeg ≤ e.platform.maxSlots) {Q : Addr → Pre} (hq : ∀ d' acts', Q s.heap.size d' acts' (mF s cA cI n.toNatClampNeg k.toNatClampNeg n.toNatClampNeg)) : wp (Op.multianewarray.make cA [n, k]) Q E e d acts s := by
  have hnone : ([k].find? (· < 0)) = none := by simp [hk]
  rw [Op.multianewarray.make]
  simp only [wp_bind', W.ite, hn, if_false, wp_pure', W.theClass, hkA, hkdA, Option.some.injEq, exists_eq_left']
  refine mW_new hkA hkdA hl1 hh1 rfl rfl (by omega) (by have := Nat.zero_le (n.toNatClampNeg * k.toNatClampNeg); omega) ?_
  simp only [hnone]
  rw [ite_self, wp_bind', Std.Legacy.Range.forIn_eq_forIn_range', show ([:n.toNatClampNeg] : Std.Legacy.Range).size = n.toNatClampNeg by simp [Std.Legacy.Range.size]]
  show wp (forIn (List.range' 0 n.toNatClampNeg 1) PUnit.unit _) _ E e d acts _
  refine wp_forIn_inv (fun rest s' => ∃ i, i ≤ n.toNatClampNeg ∧ rest = List.range' i (n.toNatClampNeg - i) ∧ s' = mF s cA cI n.toNatClampNeg k.toNatClampNeg i) _ _ ⟨0, Nat.zero_le _, rfl, by rw [mO_zero cA n.toNatClampNeg s.heap.size]; rfl⟩ ?_ ?_
  · rintro x rest s' d' acts' Q' ⟨i, hi, hr, rfl⟩ hnext
    have hlt : i < n.toNatClampNeg := by
      apply Nat.lt_of_not_le
      intro h
      rw [show n.toNatClampNeg - i = 0 by omega] at hr
      simp at hr
    rw [show n.toNatClampNeg - i = (n.toNatClampNeg - (i + 1)) + 1 by omega, List.range'_succ] at hr
    obtain ⟨rfl, hr2⟩ := List.cons.inj hr
    obtain ⟨g1, g2, g3, g4⟩ := mF_sz s cA cI n.toNatClampNeg k.toNatClampNeg x
    obtain ⟨o1, o2, o3⟩ := mO_cls cA n.toNatClampNeg s.heap.size x
    have hm : (x + 1) * k.toNatClampNeg ≤ n.toNatClampNeg * k.toNatClampNeg := Nat.mul_le_mul_right _ hlt
    rw [Nat.succ_mul] at hm
    simp only [wp_bind']
    refine mW_row (by rw [g3]; exact hkI) hkd hk hl2 hh2 (by omega) (by omega) ?_
    simp only [wp_bind', W.writeLoc, wp_pure']
    have hlt0 : s.heap.size < (mF s cA cI n.toNatClampNeg k.toNatClampNeg x).heap.size := by rw [g1]; omega
    refine ⟨mO cA n.toNatClampNeg s.heap.size x, by rw [State.heap_pushCell_of_lt (h := hlt0)]; exact g2, by rw [o2]; simp, by rw [o3]; exact hlt, ?_, hnext _ _ _ ⟨x + 1, hlt, hr2, ?_⟩⟩
    · rw [o1, o2]
      simp [State.fitsSlot, State.slotType?, g3, hkA, hkdA, fits]
    · rw [g1, mO_succ]
      rfl
  · rintro s' d' acts' ⟨i, hi, hr, rfl⟩
    have hiN : i = n.toNatClampNeg := by
      apply Nat.le_antisymm hi
      apply Nat.le_of_not_lt
      intro h
      rw [show n.toNatClampNeg - i = (n.toNatClampNeg - (i + 1)) + 1 by omega, List.range'_succ] at hr
      cases hr
    subst hiN
    simp only [wp_pure']
    exact hq _ _
end MW
section MS
variable {p : Program} {l : Launch} {e : Env} {R : Room} {s : State} {m : MethodId} {args : Array Value} {below : List Frame} {meth : Method} {c : Code} {T : State} {locs : List Loc} {cells slots : Nat}
theorem mul_step (X : Stand p l e R s m args below meth c T locs cells slots) (hexec : p.tables.exec = Jvm.exec) {own : String} {index : Nat} (hown : s.vm.findClass own = some m.cls) (hclink : (Cond.classLink own index "[[I").before args s = true) {cA cI cc : ClassId} {kA kI : Class} (hfA : s.vm.findClass "[[I" = some cA) (hkA : s.vm.classes[cA]? = some kA) (hkdA : kA.kind = .array cI (.array .int)) (hkI : s.vm.classes[cI]? = some kI) (hkd : kI.kind = .array cc .int)
    {g : JFrame} (hg : g.method = m) (hdg : decode c.code g.pc = .ok (.multianewarray index 2, 4)) {n k : Int32} {rest : List Value} (hstack : g.stack = .int k :: .int n :: rest) (hn : ¬ n < 0) (hk : ¬ k < 0) (hb1 : n.toNatClampNeg * 4 ≤ 536870912) (hb2 : k.toNatClampNeg * 4 ≤ 536870912) (hcells : cells + (1 + n.toNatClampNeg) ≤ R.cells) (hslots : slots + (n.toNatClampNeg + n.toNatClampNeg * k.toNatClampNeg) ≤ R.slots) :
    ∃ vm₁ : Vm, Stand p l e R s m args below meth c (mF (T.setVm vm₁) cA cI n.toNatClampNeg k.toNatClampNeg n.toNatClampNeg) (locs ++ (List.range n.toNatClampNeg).map fun j => ⟨T.heap.size, j⟩) (cells + 1 + n.toNatClampNeg) (slots + n.toNatClampNeg + n.toNatClampNeg * k.toNatClampNeg) ∧
      ∀ target, Steps p.tables e below ((mF (T.setVm vm₁) cA cI n.toNatClampNeg k.toNatClampNeg n.toNatClampNeg).setTop { g with pc := g.pc + 4, stack := .ref T.heap.size :: rest }) target → Steps p.tables e below (T.setTop g) target := by
  subst hg
  have hpl : e.platform.magicAccessors = ({} : Platform).magicAccessors := by rw [X.admits.platform]
  obtain ⟨c0, hf0, hcl⟩ := Cond.classLink_spec hown hclink e.platform hpl
  cases hfA.symm.trans hf0
  obtain ⟨hg1, hw1, hr1⟩ := State.classEntry (e := e) X.warmed hcl
  generalize T.vm.noted g.method.cls index (.cls cA) = vm₁ at hg1 hw1 hr1
  obtain ⟨kA1, hkA1, eA⟩ := hw1.alike.2.2 _ _ hkA
  obtain ⟨kI1, hkI1, eI⟩ := hw1.alike.2.2 _ _ hkI
  have X1 := X.noted hw1
  obtain ⟨q1, q2⟩ := X.roomAbove hcells hslots
  have XF := mF_stand X1 cA cI n.toNatClampNeg k.toNatClampNeg n.toNatClampNeg
  refine ⟨vm₁, XF, fun target hrest => ?_⟩
  jvm_step X.here [hexec, hdg]
  simp only [Op.multianewarray.sem, wp_bind', W.resolveClassAt_links (State.method?_setTop g X.here.top) hg1]
  rw [W.popN, if_neg (by decide)]
  refine ⟨g, State.topJava?_setTop' (s := T.setVm vm₁) g X.here.top, [.int n, .int k], rest, rfl, hstack, ?_⟩
  simp only [List.mapM_cons, List.mapM_nil, wp_bind', wp_pure']
  refine mW_all (kA := kA1) (kI := kI1) (cc := cc) hkA1 (by rw [eA]; exact hkdA) hkI1 (by rw [eI]; exact hkd) hn hk (by rw [Launch.admits_arrayLengthLimit X.admits]; omega) (by rw [Launch.admits_maxHeapBytes X.admits]; omega) (by rw [Launch.admits_arrayLengthLimit X.admits]; omega) (by rw [Launch.admits_maxHeapBytes X.admits]; omega) (by show T.heap.size + 1 + _ ≤ _; omega) (by show T.slotsUsed + _ + _ ≤ _; omega) (fun d' acts' => ?_)
  have eS : ((T.setTop g).setVm vm₁).setTop { g with stack := rest } = (T.setVm vm₁).setTop { g with stack := rest } := by
    show ((T.setVm vm₁).setTop g).setTop _ = _
    rw [State.setTop_setTop]
  rw [eS, mF_top]
  simp only [wp_bind', W.mark, W.pushRef, State.topJava?_setTop' _ XF.here.top, Option.some.injEq, exists_eq_left', State.setTop_setTop, State.heap_setTop]
  intro acts
  simp [jvm, XF.here.top]
  exact hrest
end MS
section SDM
variable {G : aGl} {M : aMI} {pc : Nat}
theorem mC_cell (cI : ClassId) (m : Nat) : mC cI m = vp_cell cI (m, .inl (fun _ => 0)) := by
  unfold mC
  rw [arrV_new, vp_cell_i]
theorem mO_cell (cA : ClassId) (n b : Nat) : mO cA n b n = vp_cell cA (n, .inr (.inr (.inr (.inr (fun j => if j < n then some (b + 1 + j) else none))))) := by
  unfold mO
  rw [vp_cell_q]
theorem aE_mulO {σ : aSt} {n m b : Nat} (h : b < σ.1) : aE G (aMul σ n m) b = aE G σ b := aE_congr (if_pos h) (fun _ => if_pos h) (fun _ => if_pos h) (fun _ => if_pos h)
theorem sd_mul {index : Nat} (hlk : Cond.classLink M.2.2.2.2.2.2 index "[[I" ∈ aTT) (hd : decode M.2.1 pc = .ok (.multianewarray index 2, 4)) : aSnd G M pc (oMul (pc + 4)) := by
  intro call k hc hk ls st σ v σ' h
  obtain ⟨x, r, rfl, h_1⟩ := pI_inv h
  obtain ⟨n, r, rfl, h_2⟩ := pI_inv h_1
  obtain ⟨⟨hn, hx, hnl, hxl⟩, h_3⟩ := cIf_inv h_2
  obtain ⟨hm, hw⟩ := hk _ _ _ _ _ _ h_3
  have hm1 : σ.1 + 1 + n.toNatClampNeg ≤ σ'.1 := hm.1
  have hm2 : σ.2.1 + n.toNatClampNeg + n.toNatClampNeg * x.toNatClampNeg ≤ σ'.2.1 := hm.2
  refine ⟨⟨by omega, by omega⟩, fun p l e R s m args below meth c H locs cells slots mc ms real C hK hB hDy hl => ?_⟩
  obtain ⟨hP, hz, hS, b1, b2, b3, b4⟩ := hDy
  refine W_sz (fun hsz => ?_)
  have hlow := aLow hP (Nat.le_trans hB hS.1)
  have hsize : H.size = G.1 + σ.1 := by omega
  obtain ⟨kA, hkA, hkdA⟩ := hK.1.2.2.1.2
  have hA1 := hK.1.1.2 11 _ (aTys_at (G := G) (k := 24) (by omega) (by omega))
  have hI1 := hK.1.1.2 2 _ (aTys_at (G := G) (k := 15) (by omega) (by omega))
  obtain ⟨-, kI, hkI, cc, hkd⟩ := hI1.1 0 (fun _ => .null)
  have hfA : s.vm.findClass "[[I" = some (G.2.2.1 24) := hA1.2
  intro T hT X
  have hTs : T.heap.size = G.1 + σ.1 := by rw [hT]; exact hsize
  obtain ⟨vm₁, XF, hst⟩ := mul_step X C.1 C.2.2.2.2.1 (C.2.2.2.2.2.1 _ hlk) hfA hkA hkdA hkI hkd (g := F0 m pc real (Value.int x :: Value.int n :: r.map (aT G))) rfl (by rw [C.2.1]; exact hd) rfl hn hx (by omega) (by omega) (by omega) (by omega)
  obtain ⟨g1, g2, g3, g4⟩ := mF_sz (T.setVm vm₁) (G.2.2.1 24) (G.2.2.1 15) n.toNatClampNeg x.toNatClampNeg n.toNatClampNeg
  have eh : (T.setVm vm₁).heap = H := hT
  have hold : ∀ q : Nat, q < H.size → (mF (T.setVm vm₁) (G.2.2.1 24) (G.2.2.1 15) n.toNatClampNeg x.toNatClampNeg n.toNatClampNeg).heap[q]? = H[q]? := fun q hq => by
    have := mF_old (T.setVm vm₁) (G.2.2.1 24) (G.2.2.1 15) n.toNatClampNeg x.toNatClampNeg (a := q) (by rw [eh]; exact hq) n.toNatClampNeg
    rw [eh] at this
    exact this
  have hrow : ∀ j : Nat, j < n.toNatClampNeg → (mF (T.setVm vm₁) (G.2.2.1 24) (G.2.2.1 15) n.toNatClampNeg x.toNatClampNeg n.toNatClampNeg).heap[G.1 + σ.1 + 1 + j]? = some (mC (G.2.2.1 15) x.toNatClampNeg) := fun j hj => by
    have := mF_row (T.setVm vm₁) (G.2.2.1 24) (G.2.2.1 15) n.toNatClampNeg x.toNatClampNeg n.toNatClampNeg j hj
    rw [eh, hsize] at this
    exact this
  rw [eh, hsize] at g1 g2
  generalize hF : mF (T.setVm vm₁) (G.2.2.1 24) (G.2.2.1 15) n.toNatClampNeg x.toNatClampNeg n.toNatClampNeg = F at XF hst g1 g2 hold hrow
  have hP1 : va_P G.2.1 vwCl (aW G (aMul σ n.toNatClampNeg x.toNatClampNeg)) F.heap := by
    intro k0 q hq
    have hk0 : k0 < σ.1 + 1 + n.toNatClampNeg := by
      have := (List.getElem?_eq_some_iff.mp hq).1
      simpa [aW] using this
    rw [aW_get (σ := aMul σ n.toNatClampNeg x.toNatClampNeg) hk0] at hq
    cases hq
    by_cases h1 : k0 < σ.1
    · rw [aE_mulO h1]
      exact (hP k0 _ (aW_get h1)).kept (hold _ (by show G.1 + k0 < H.size; omega))
    · by_cases h2 : k0 = σ.1
      · subst h2
        rw [aE_ref (kd := 24) (by show (if σ.1 < σ.1 then σ.2.2.1 σ.1 else if σ.1 = σ.1 then (24, n.toNatClampNeg) else (15, x.toNatClampNeg)).1 = 24; rw [if_neg (by omega), if_pos rfl]) (by omega)]
        show F.heap[G.1 + σ.1]? = some (vp_cell _ _)
        rw [g2, mO_cell]
        congr 2
        have e1 : aH (aMul σ n.toNatClampNeg x.toNatClampNeg) σ.1 = (24, n.toNatClampNeg) := by show (if σ.1 < σ.1 then σ.2.2.1 σ.1 else if σ.1 = σ.1 then (24, n.toNatClampNeg) else (15, x.toNatClampNeg)) = _; rw [if_neg (by omega), if_pos rfl]
        rw [e1]
        congr 5
        funext j
        show _ = aRf G (if σ.1 < σ.1 then σ.2.2.2.2.2 σ.1 j else if σ.1 = σ.1 ∧ j < n.toNatClampNeg then some (σ.1 + 1 + j) else none)
        rw [if_neg (Nat.lt_irrefl σ.1)]
        by_cases hj : j < n.toNatClampNeg
        · simp only [hj, and_self, if_true]
          show some _ = some (G.1 + (σ.1 + 1 + j))
          congr 1
          omega
        · simp only [hj, and_false, if_false]
          rfl
      · have e1 : aH (aMul σ n.toNatClampNeg x.toNatClampNeg) k0 = (15, x.toNatClampNeg) := by show (if k0 < σ.1 then σ.2.2.1 k0 else if k0 = σ.1 then (24, n.toNatClampNeg) else (15, x.toNatClampNeg)) = _; rw [if_neg h1, if_neg h2]
        rw [aE_int (kd := 15) (by rw [e1]) (by omega) (by omega) (by omega), e1]
        show F.heap[G.1 + k0]? = some (vp_cell _ _)
        have := hrow (k0 - σ.1 - 1) (by omega)
        rw [show G.1 + σ.1 + 1 + (k0 - σ.1 - 1) = G.1 + k0 by omega] at this
        rw [this, mC_cell]
        congr 3
        congr 2
        funext j
        show _ = (if k0 < σ.1 then σ.2.2.2.1 k0 j else 0)
        rw [if_neg h1]
  have hSF : va_S (aBelow G) s.heap F.heap (locs ++ (List.range n.toNatClampNeg).map fun j => ⟨T.heap.size, j⟩) := by
    refine ⟨by have := hS.1; omega, fun q h1 h2 => (hold q (by have := hS.1; omega)).trans (hS.2.1 q h1 h2), fun q hq => ?_⟩
    rcases List.mem_append.mp hq with h | h
    · exact hS.2.2 q h
    · obtain ⟨j, -, rfl⟩ := List.mem_map.mp h
      show G.1 ≤ T.heap.size
      omega
  obtain ⟨t, a1, b1'⟩ := hw p l e R s m args below meth c F.heap _ (cells + 1 + n.toNatClampNeg) (slots + n.toNatClampNeg + n.toNatClampNeg * x.toNatClampNeg) mc ms real C hK hB ⟨hP1, by show s.heap.size + (cells + 1 + n.toNatClampNeg) = G.1 + (σ.1 + 1 + n.toNatClampNeg); omega, hSF, by show cells + 1 + n.toNatClampNeg + σ'.1 ≤ mc + (σ.1 + 1 + n.toNatClampNeg); omega, by show slots + n.toNatClampNeg + n.toNatClampNeg * x.toNatClampNeg + σ'.2.1 ≤ ms + (σ.2.1 + n.toNatClampNeg + n.toNatClampNeg * x.toNatClampNeg); omega, b3, b4⟩ hl F rfl XF
  refine ⟨t, hst t ?_, b1'⟩
  have e0 : ({ F0 m pc real (Value.int x :: Value.int n :: r.map (aT G)) with pc := pc + 4, stack := .ref T.heap.size :: r.map (aT G) } : JFrame) = F0 m (pc + 4) real ((Value.ref σ.1 :: r).map (aT G)) := by
    rw [hTs]
    rfl
  rw [e0]
  exact a1
end SDM
