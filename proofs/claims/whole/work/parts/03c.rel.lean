/-! ===== THE SMALL MACHINE AGAINST THE REAL ONE: what a store is in a heap ===== -/
/-- base of the new cells, classes, array classes, special cells, the script -/
abbrev aGl : Type := Nat × va_G × (Nat → ClassId) × (Nat → Value) × Nat × (Nat → Int32)
def aT (G : aGl) (v : Value) : Value := match v with
  | .ref a => .ref (G.1 + a)
  | .float u => G.2.2.2.1 u.toNat
  | .int x => .int x
  | .long x => .long x
  | .null => .null
  | v => v
/-- which fields of a class are references -/
def aFlT : List (List Bool) := [[false, false, true, true], [false, false, false, false, true], [true, false, true, false, true, true, true], [true, true, false, true], [false, false, false, false, true, false], [false, false, false, false, false], [false, false, false, false, false, false, false, false], [false, false, false, true, false], [false, false, true, true, false, false, false, false, false, false, true, false], [true, true, true, false, true, false, false, false, false], [false, true, true, true, true, true, false, true], [true, true, true, true, true, true, false, false, false], [false, true, false, true, false, true, true, true, true, true, false, false, false, false, false, false, false, false, true, false, true, true, true, true, true, true, true, true, true, true, true, true, false, true, true, true, false, false, true, true, true, true, true, false, true, true, true, true, false, true, true, true, false, false, true, true, true, true, true, true, true, true, true, true, true, true, true, true, true, true, true, true, true, true, true, true, true, true, true, true]]
def aFl (k : Nat) : List Bool := aFlT.getD k []
def aRf (G : aGl) (r : Option Nat) : Option Nat := r.map (fun a => G.1 + a)
def aFv (G : aGl) (σ : aSt) (ci a : Nat) : List Value := (List.range (aFl ci).length).map (fun j => if (aFl ci).getD j false = true then va_rf (aRf G (aP σ a j)) else .int (aI σ a j))
def aE (G : aGl) (σ : aSt) (a : Nat) : va_E :=
  if (aH σ a).1 < 13 then .inr ((aH σ a).1, aFv G σ (aH σ a).1 a)
  else if (aH σ a).1 = 16 then .inl (G.2.2.1 16, (aH σ a).2, .inr (.inl (fun j => aJ σ a j)))
  else if (aH σ a).1 < 18 then .inl (G.2.2.1 (aH σ a).1, (aH σ a).2, .inl (fun j => aI σ a j))
  else .inl (G.2.2.1 (aH σ a).1, (aH σ a).2, .inr (.inr (.inr (.inr (fun j => aRf G (aP σ a j))))))
def aW (G : aGl) (σ : aSt) : va_W := (List.range σ.1).map (fun a => (G.1 + a, aE G σ a))
def aTyF (k : Nat) : FieldType := match k with
  | 13 => .byte
  | 14 => .char
  | 15 => .int
  | 16 => .long
  | 17 => .boolean
  | 18 => .object RX0
  | 19 => .object RX1
  | 20 => .object RX4
  | 21 => .object RX5
  | 22 => .object RX6
  | 23 => .object RX7
  | _ => .array .int
def aTys (G : aGl) : List (ClassId × FieldType) := (List.range 12).map (fun i => (G.2.2.1 (13 + i), aTyF (13 + i)))
theorem aTys_at {G : aGl} {k : Nat} (h1 : 12 < k) (h2 : k < 25) : (aTys G)[k - 13]? = some (G.2.2.1 k, aTyF k) := by
  unfold aTys
  rw [List.getElem?_map, List.getElem?_range (by omega)]
  simp only [Option.map_some]
  rw [show 13 + (k - 13) = k by omega]
theorem aW_get {G : aGl} {σ : aSt} {a : Nat} (h : a < σ.1) : (aW G σ)[a]? = some (G.1 + a, aE G σ a) := by
  unfold aW
  rw [List.getElem?_map, List.getElem?_range h]
  rfl
theorem aW_set {G : aGl} {σ σ' : aSt} {a : Nat} {x : va_E} (hn : σ'.1 = σ.1) (hx : aE G σ' a = x) (ho : ∀ b, b ≠ a → aE G σ' b = aE G σ b) : (aW G σ).set a (G.1 + a, x) = aW G σ' := by
  apply List.ext_getElem?
  intro i
  unfold aW
  rw [List.getElem?_set]
  by_cases hi : a = i
  · subst hi
    rw [if_pos rfl]
    by_cases hl : a < σ.1
    · rw [if_pos (by simpa using hl), List.getElem?_map, List.getElem?_range (by omega)]
      simp [hx]
    · rw [if_neg (by simpa using hl), List.getElem?_eq_none (by simp; omega)]
  · rw [if_neg hi, List.getElem?_map, List.getElem?_map, hn]
    by_cases hl : i < σ.1
    · rw [List.getElem?_range hl]
      simp [ho i (fun e => hi e.symm)]
    · rw [List.getElem?_eq_none (by simp; omega)]
      rfl
theorem aW_push {G : aGl} {σ σ' : aSt} {x : va_E} (hn : σ'.1 = σ.1 + 1) (hx : aE G σ' σ.1 = x) (ho : ∀ b, b < σ.1 → aE G σ' b = aE G σ b) : aW G σ ++ [(G.1 + σ.1, x)] = aW G σ' := by
  unfold aW
  rw [hn, List.range_succ, List.map_append, ← hx]
  congr 1
  apply List.map_congr_left
  intro b hb
  rw [ho b (List.mem_range.mp hb)]
theorem aW_D {G : aGl} {σ : aSt} : va_D (fun q => G.1 ≤ q) (aW G σ) := by
  have key : ∀ (k : Nat) (q : Nat × va_E), (aW G σ)[k]? = some q → q.1 = G.1 + k := by
    intro k q h
    unfold aW at h
    rw [List.getElem?_map] at h
    by_cases hl : k < σ.1
    · rw [List.getElem?_range hl] at h
      cases h
      rfl
    · rw [List.getElem?_eq_none (by simp; omega)] at h
      cases h
  refine ⟨fun i j x y hi hj hxy => ?_, fun k q h => ?_⟩
  · have h1 := key i x hi
    have h2 := key j y hj
    omega
  · have h1 := key k q h
    show G.1 ≤ q.1
    omega
/-- what the classes' tables say of a class of ours -/
def aClOK (ci : Nat) (C : String) (T : u_T) (N : Nat) (ty : Nat → FieldType) : Prop := vwCl[ci]? = some (C, T, N) ∧ (aFl ci).length = N ∧ ci < 13 ∧ (∀ w ∈ u_ws C T N, w ∈ aTT) ∧ (∀ k, k < N → parseFieldDescriptor (T k).2.2.1 = some (ty k)) ∧ (∀ a, a < N → ∀ b, b < N → a ≠ b → (T a).2.1 ≠ (T b).2.1)
theorem clX0 : aClOK 0 RX0 TX0 4 tyX0 := ⟨rfl, rfl, by decide, wL_X0, tyX0_ok, nmX0⟩
theorem clX1 : aClOK 1 RX1 TX1 5 tyX1 := ⟨rfl, rfl, by decide, wL_X1, tyX1_ok, nmX1⟩
theorem clX2 : aClOK 2 RX2 TX2 7 tyX2 := ⟨rfl, rfl, by decide, wL_X2, tyX2_ok, nmX2⟩
theorem clX3 : aClOK 3 RX3 TX3 4 tyX3 := ⟨rfl, rfl, by decide, wL_X3, tyX3_ok, nmX3⟩
theorem clX4 : aClOK 4 RX4 TX4 6 tyX4 := ⟨rfl, rfl, by decide, wL_X4, tyX4_ok, nmX4⟩
theorem clX5 : aClOK 5 RX5 TX5 5 tyX5 := ⟨rfl, rfl, by decide, wL_X5, tyX5_ok, nmX5⟩
theorem clX6 : aClOK 6 RX6 TX6 8 tyX6 := ⟨rfl, rfl, by decide, wL_X6, tyX6_ok, nmX6⟩
theorem clX7 : aClOK 7 RX7 TX7 5 tyX7 := ⟨rfl, rfl, by decide, wL_X7, tyX7_ok, nmX7⟩
theorem clX8 : aClOK 8 RX8 TX8 12 tyX8 := ⟨rfl, rfl, by decide, wL_X8, tyX8_ok, nmX8⟩
theorem clX9 : aClOK 9 RX9 TX9 9 tyX9 := ⟨rfl, rfl, by decide, wL_X9, tyX9_ok, nmX9⟩
theorem clX10 : aClOK 10 RX10 TX10 8 tyX10 := ⟨rfl, rfl, by decide, wL_X10, tyX10_ok, nmX10⟩
theorem clX11 : aClOK 11 RX11 TX11 9 tyX11 := ⟨rfl, rfl, by decide, wL_X11, tyX11_ok, nmX11⟩
theorem clX12 : aClOK 12 RX12 TX12 80 tyX12 := ⟨rfl, rfl, by decide, wL_X12, tyX12_ok, nmX12⟩
/-- what stays: tables, the script, the constant text -/
def aNst : List Cond := [.methodLinkNest RX11 9 yX8_init "QuayClock", .methodLinkNest RX8 17 yX10_init "QuayClock", .methodLinkNest RX2 29 yX10_init "QuayClock", .methodLinkNest RX2 37 yX5_init "QuayClock", .methodLinkNest RX2 38 yX0_init "QuayClock", .methodLinkNest RX0 17 yX10_init "QuayClock", .methodLinkNest RX9 33 yX6_init "QuayClock", .methodLinkNest RX9 34 yX7_init "QuayClock", .methodLinkNest RX9 35 yX1_init "QuayClock", .methodLinkNest RX11 37 yX3_init "QuayClock", .methodLinkNest RX11 48 yX4_init "QuayClock"]
def aTx : String := "bid     start   least   if      or      and     boat    kind    size    boxes   quality last    bought  wanted  credit  lot     "
def aBy : List Int32 := aTx.toList.map (fun ch => Int32.ofNat ch.toNat)
def aBelow (G : aGl) : Nat → Prop := fun q => G.1 ≤ q
def aKs (G : aGl) (U : State) : Prop := va_K G.2.1 vwCl (aTys G) U ∧ (∀ w ∈ aNst, va_Nw w U) ∧ ((∀ C ∈ [RX0, RX1, RX4, RX5, RX6, RX7], va_AO C U) ∧ ∃ kA : Class, U.vm.classes[G.2.2.1 24]? = some kA ∧ kA.kind = .array (G.2.2.1 15) (.array .int)) ∧ (∃ a1 : Nat, G.2.2.2.1 1 = .ref a1 ∧ vk_R RX8 141 aTx a1 U) ∧ ∀ u : Nat, (∃ a : Nat, G.2.2.2.1 u = .ref a) ∨ G.2.2.2.1 u = .null
def aKh (G : aGl) (U : State) (H : Heap) : Prop := (∃ b : Nat, G.2.2.2.1 0 = .ref b ∧ va_X b G.2.2.2.2.1 G.2.2.2.2.2 U H ∧ b < G.1) ∧ (∃ a1 a2 : Nat, G.2.2.2.1 1 = .ref a1 ∧ G.2.2.2.1 2 = .ref a2 ∧ vk_S 1 [128] [aBy] (fun _ => a1) (fun _ => a2) (aBelow G) U H) ∧ va_Z "java/lang/String" "COMPACT_STRINGS" "Z" (.int 1) (aBelow G) U H ∧ va_Z "jdk/internal/util/Preconditions" "SIOOBE_FORMATTER" "Ljava/util/function/BiFunction;" (G.2.2.2.1 3) (aBelow G) U H
def aKK (G : aGl) (U : State) (H : Heap) : Prop := aKs G U ∧ aKh G U H
theorem aKs_warm {G : aGl} {s U : State} (hW : s.WarmedH U.vm) (h : aKs G s) : aKs G U := by
  obtain ⟨h1, h2, ⟨h3, kA, hkA, hkd⟩, ⟨a1, h4, h5⟩, h6⟩ := h
  obtain ⟨k', hk', he⟩ := hW.alike.2.2 _ _ hkA
  refine ⟨va_K.moved hW.alike h1, fun w hw => ?_, ⟨fun C hC => va_AO.moved hW.alike (h3 C hC), k', hk', by rw [he]; exact hkd⟩, ⟨a1, h4, vk_R.warm hW h5⟩, h6⟩
  have h0 := h2 w hw
  simp only [aNst, List.mem_cons, List.not_mem_nil, or_false] at hw
  rcases hw with rfl | rfl | rfl | rfl | rfl | rfl | rfl | rfl | rfl | rfl | rfl <;> exact va_Nw.warmM hW h0
theorem aKh_moved {G : aGl} {s U : State} {H : Heap} (hW : s.vm.Alike U.vm) (h : aKh G s H) : aKh G U H := by
  obtain ⟨⟨b, h1, h2, h3⟩, ⟨a1, a2, h4, h5, h6⟩, h7, h8⟩ := h
  exact ⟨⟨b, h1, va_X.moved hW h2, h3⟩, ⟨a1, a2, h4, h5, vk_S.moved hW h6⟩, va_Z.moved hW h7, va_Z.moved hW h8⟩
theorem aKh_kept {G : aGl} {U : State} {H H1 : Heap} (hq : ∀ q : Nat, q < G.1 → H1[q]? = H[q]?) (h : aKh G U H) : aKh G U H1 := by
  obtain ⟨⟨b, h1, h2, h3⟩, ⟨a1, a2, h4, h5, h6⟩, h7, h8⟩ := h
  have hk : ∀ a : Nat, a < H.size → ¬ aBelow G a → H1[a]? = H[a]? := fun a _ h => hq a (Nat.not_le.mp h)
  exact ⟨⟨b, h1, va_X.kept h2 (hq _ h3), h3⟩, ⟨a1, a2, h4, h5, vk_S.kept h6 hk⟩, va_Z.kept h7 hk, va_Z.kept h8 hk⟩
def aCx (M : aMI) (p : Program) (R : Room) (s : State) (m : MethodId) (args : Array Value) (meth : Method) (c : Code) : Prop :=
  p.tables.exec = Jvm.exec ∧ c.code = M.2.1 ∧ meth.sig.returnType = M.2.2.2.1 ∧ c.maxLocals = M.2.2.1 ∧ s.vm.findClass M.2.2.2.2.2.2 = some m.cls ∧ (∀ w ∈ aTT, w.before args s = true) ∧ meth.locks = false ∧ (M.1.name = "<init>" → meth.name = "<init>") ∧ M.2.2.2.2.1 ≤ R.frames ∧ M.2.2.2.2.2.1 ≤ R.locals
def aDy (G : aGl) (σ σ' : aSt) (s : State) (R : Room) (H : Heap) (locs : List Loc) (cells slots mc ms : Nat) : Prop :=
  va_P G.2.1 vwCl (aW G σ) H ∧ s.heap.size + cells = G.1 + σ.1 ∧ va_S (aBelow G) s.heap H locs ∧ cells + σ'.1 ≤ mc + σ.1 ∧ slots + σ'.2.1 ≤ ms + σ.2.1 ∧ mc ≤ R.cells ∧ ms ≤ R.slots
/-- a value that a local may be read as -/
def aOk (v : Value) : Prop := match v with
  | .double _ => False
  | _ => True
def aLv (G : aGl) (ls : List Value) (real : Array Slot) (nL : Nat) : Prop := ls.length = nL ∧ ∃ l' : List (Nat × Value), lv_has real nL l' ∧ ∀ (i : Nat) (v : Value), ls[i]? = some v → aOk v → (i, aT G v) ∈ l'
def aQc (G : aGl) (v : Option Value) (σ' : aSt) : Array Value → State → Outcome → State → Prop := fun _ st o t => o = .returned (v.map (aT G)) ∧ va_P G.2.1 vwCl (aW G σ') t.heap ∧ va_F (aBelow G) st t
def aPc (G : aGl) (as : List Value) (σ : aSt) : Array Value → State → Prop := fun av U => av = (as.map (aT G)).toArray ∧ aKK G U U.heap ∧ va_P G.2.1 vwCl (aW G σ) U.heap ∧ U.heap.size = G.1 + σ.1
def aRm (M : aMI) (σ σ' : aSt) : Room := { frames := M.2.2.2.2.1, cells := σ'.1 - σ.1, slots := σ'.2.1 - σ.2.1, locals := M.2.2.2.2.2.1 }
def aGr (σ σ' : aSt) : Prop := σ.1 ≤ σ'.1 ∧ σ.2.1 ≤ σ'.2.1
def aMet (G : aGl) (M : aMI) (as : List Value) (σ : aSt) (v : Option Value) (σ' : aSt) : Prop := aGr σ σ' ∧ ∀ l : Launch, Met l M.1 (.code M.1 M.2.1 M.2.2.1 M.2.2.2.1 :: aTT) (aRm M σ σ') (aPc G as σ) (aQc G v σ') (σ'.1 - σ.1) (σ'.2.1 - σ.2.1) (aBelow G)
def aWW (G : aGl) (M : aMI) (pc : Nat) (ls st : List Value) (σ : aSt) (v : Option Value) (σ' : aSt) : Prop :=
  ∀ (p : Program) (l : Launch) (e : Env) (R : Room) (s : State) (m : MethodId) (args : Array Value) (below : List Frame) (meth : Method) (c : Code) (H : Heap) (locs : List Loc) (cells slots mc ms : Nat) (real : Array Slot),
    aCx M p R s m args meth c → aKK G s s.heap → G.1 ≤ s.heap.size → aDy G σ σ' s R H locs cells slots mc ms → aLv G ls real M.2.2.1 →
    W p l e R s m args below meth c H locs cells slots (MQ below (aQc G v σ') args s mc ms (aBelow G)) (F0 m pc real (st.map (aT G)))
def aPP (G : aGl) (M : aMI) (pc : Nat) (ls st : List Value) (σ : aSt) (v : Option Value) (σ' : aSt) : Prop := aGr σ σ' ∧ aWW G M pc ls st σ v σ'
/-- a step of the small machine is one of the real one -/
def aSnd (G : aGl) (M : aMI) (pc : Nat) (stp : aStp) : Prop := ∀ (call : aC) (k : aK), (∀ j as σ v σ', call j as σ = some (v, σ') → aMet G (aM j) as σ v σ') → (∀ pc' ls st σ v σ', k pc' ls st σ = some (v, σ') → aPP G M pc' ls st σ v σ') →
  ∀ ls st σ v σ', stp call k ls st σ = some (v, σ') → aPP G M pc ls st σ v σ'
