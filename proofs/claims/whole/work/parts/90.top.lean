/-! ===== what is wanted of the small machine ===== -/
def aS0 : aSt := (0, 0, fun _ => (0, 0), fun _ _ => 0, fun _ _ => 0, fun _ _ => none)
def aLawOK : Prop := ∀ (xs : Nat → Int32) (L : Nat), L ≤ 3072 → ∃ (n : Nat) (σ' : aSt), aRun xs L n 188 0 (aEnt 4 [.float 0]) [] aS0 = some (some (.int 1), σ') ∧ σ'.1 ≤ 600000 ∧ σ'.2.1 ≤ 7302250
theorem atop_D {s : State} {args : Array Value} (hts : ∀ w ∈ aTT, w.before args s = true) : ∃ D : va_G, ∀ (k : Nat) (q : vw_C), vwCl[k]? = some q → u_Kn s q.1 q.2.1 q.2.2 (D.1 k) (D.2 k) := by
  have hm : ∀ q ∈ vwCl, ∃ (cC : ClassId) (iS : Nat → Nat), u_Kn s q.1 q.2.1 q.2.2 cC iS := by
    intro q hq
    simp only [vwCl, List.mem_cons, List.not_mem_nil, or_false] at hq
    rcases hq with rfl | rfl | rfl | rfl | rfl | rfl | rfl | rfl | rfl | rfl | rfl | rfl | rfl
    · exact u_known hts wL_X0 (hts _ wA_X0)
    · exact u_known hts wL_X1 (hts _ wA_X1)
    · exact u_known hts wL_X2 (hts _ wA_X2)
    · exact u_known hts wL_X3 (hts _ wA_X3)
    · exact u_known hts wL_X4 (hts _ wA_X4)
    · exact u_known hts wL_X5 (hts _ wA_X5)
    · exact u_known hts wL_X6 (hts _ wA_X6)
    · exact u_known hts wL_X7 (hts _ wA_X7)
    · exact u_known hts wL_X8 (hts _ wA_X8)
    · exact u_known hts wL_X9 (hts _ wA_X9)
    · exact u_known hts wL_X10 (hts _ wA_X10)
    · exact u_known hts wL_X11 (hts _ wA_X11)
    · exact u_known hts wL_X12 (hts _ wA_X12)
  have hk : ∀ k : Nat, ∃ x : ClassId × (Nat → Nat), ∀ q : vw_C, vwCl[k]? = some q → u_Kn s q.1 q.2.1 q.2.2 x.1 x.2 := by
    intro k
    cases h : vwCl[k]? with
    | none => exact ⟨(0, fun _ => 0), fun q hq => by cases hq⟩
    | some q =>
      obtain ⟨cC, iS, h1⟩ := hm q (List.mem_of_getElem? h)
      exact ⟨(cC, iS), fun q' hq => by cases hq; exact h1⟩
  obtain ⟨f, hf⟩ := Classical.axiomOfChoice hk
  exact ⟨(fun k => (f k).1, fun k => (f k).2), fun k q h => hf k q h⟩
theorem atop_p {s : State} {args : Array Value} {ty : FieldType} (h : (Cond.arrayClass ty).before args s = true) (hn : ∀ C, ty ≠ .object C) : ∃ c : ClassId, ArrOfT s c ty ∧ va_RA s c ty := by
  obtain ⟨c, k, comp, h1, h2, h3⟩ := Cond.arrayClass_spec h
  refine ⟨c, fun N z => ⟨(fun k h => by cases h), k, h2, comp, h3⟩, ?_⟩
  cases ty with
  | object C => exact absurd rfl (hn C)
  | _ => exact h1
theorem atop_o {s : State} {args : Array Value} {C : String} (h : (Cond.arrayOver (.object C)).before args s = true) : ∃ c : ClassId, ArrOfT s c (.object C) ∧ va_RA s c (.object C) := by
  obtain ⟨comp, c, k, h1, h2, h3, h4, h5⟩ := Cond.arrayOver_spec h
  exact ⟨c, fun N z => ⟨(fun k h => by cases h), k, h3, comp, h4⟩, k, comp, h3, h4, h1, h5⟩
theorem atop_g {s : State} {args : Array Value} (h : (Cond.arrayOver (.array .int)).before args s = true) : ∃ c : ClassId, (ArrOfT s c (.array .int) ∧ va_RA s c (.array .int)) ∧ ∃ (comp : ClassId) (k : Class), va_RA s comp .int ∧ s.vm.classes[c]? = some k ∧ k.kind = .array comp (.array .int) := by
  have h0 : (Cond.arrayOver (.array .int)).holds args s none s [] = true := h
  simp only [Cond.holds, Cond.value, beq_iff_eq] at h0
  cases hc : s.vm.findClass (FieldType.array .int).toString with
  | none => simp [hc] at h0
  | some comp =>
    simp only [hc, Option.bind_some] at h0
    obtain ⟨c, hi, h1⟩ := Option.bind_eq_some_iff.mp h0
    obtain ⟨k, hk, h2⟩ := Option.map_eq_some_iff.mp h1
    obtain ⟨hlt, hp, -⟩ := Array.findIdx?_eq_some_iff_getElem.mp hi
    rw [(Array.getElem?_eq_some_iff.mp hk).2] at hp
    cases hkk : k.kind with
    | array comp' ty =>
      rw [hkk] at h2 hp
      simp only [Bool.and_eq_true, decide_eq_true_eq] at h2
      simp only [beq_iff_eq] at hp
      subst hp
      obtain ⟨rfl, h3⟩ := h2
      exact ⟨c, ⟨fun N z => ⟨(fun k h => by cases h), k, hk, comp', hkk⟩, h3⟩, comp', k, hc, hk, hkk⟩
    | _ => rw [hkk] at h2; simp at h2
theorem atop_cy {s : State} {args : Array Value} (hts : ∀ w ∈ lw_tbl, w.before args s = true) : ∃ cy : Nat → ClassId, (∀ k, 12 < k → k < 25 → ArrOfT s (cy k) (aTyF k) ∧ va_RA s (cy k) (aTyF k)) ∧ ∃ kA : Class, s.vm.classes[cy 24]? = some kA ∧ kA.kind = .array (cy 15) (.array .int) := by
  have htt : ∀ w ∈ aTT, w.before args s = true := fun w hw => hts w (aTT_in w hw)
  have hk : ∀ k : Nat, ∃ c : ClassId, 12 < k → k < 25 → ArrOfT s c (aTyF k) ∧ va_RA s c (aTyF k) := by
    intro k
    by_cases h : 12 < k ∧ k < 25
    · have key : ∃ c : ClassId, ArrOfT s c (aTyF k) ∧ va_RA s c (aTyF k) := by
        rcases (show k = 13 ∨ k = 14 ∨ k = 15 ∨ k = 16 ∨ k = 17 ∨ k = 18 ∨ k = 19 ∨ k = 20 ∨ k = 21 ∨ k = 22 ∨ k = 23 ∨ k = 24 by omega) with rfl | rfl | rfl | rfl | rfl | rfl | rfl | rfl | rfl | rfl | rfl | rfl
        · exact atop_p (htt _ wR_byte) (fun C h => by cases h)
        · exact atop_p (htt _ wR_char) (fun C h => by cases h)
        · exact atop_p (htt _ wR_int) (fun C h => by cases h)
        · exact atop_p (htt _ wR_long) (fun C h => by cases h)
        · exact atop_p (htt _ wR_boolean) (fun C h => by cases h)
        · exact atop_o (hts _ (atb_1 _ (List.mem_of_getElem? (i := 117) rfl)))
        · exact atop_o (hts _ (atb_1 _ (List.mem_of_getElem? (i := 217) rfl)))
        · exact atop_o (hts _ (atb_2 _ (List.mem_of_getElem? (i := 125) rfl)))
        · exact atop_o (hts _ (atb_1 _ (List.mem_of_getElem? (i := 115) rfl)))
        · exact atop_o (hts _ (atb_1 _ (List.mem_of_getElem? (i := 213) rfl)))
        · exact atop_o (hts _ (atb_1 _ (List.mem_of_getElem? (i := 215) rfl)))
        · obtain ⟨c, h1, -⟩ := atop_g (hts _ (atb_2 _ (List.mem_of_getElem? (i := 110) rfl)))
          exact ⟨c, h1⟩
      obtain ⟨c, hc⟩ := key
      exact ⟨c, fun _ _ => hc⟩
    · exact ⟨0, fun h1 h2 => absurd ⟨h1, h2⟩ h⟩
  obtain ⟨f, hf⟩ := Classical.axiomOfChoice hk
  obtain ⟨c, ⟨-, h1⟩, comp, kA, h2, h3, h4⟩ := atop_g (hts _ (atb_2 _ (List.mem_of_getElem? (i := 110) rfl)))
  have e24 : s.vm.findClass "[[I" = some (f 24) := (hf 24 (by omega) (by omega)).2
  have e24' : s.vm.findClass "[[I" = some c := h1
  have e15 : s.vm.findClass "[I" = some (f 15) := (hf 15 (by omega) (by omega)).2
  have e15' : s.vm.findClass "[I" = some comp := h2
  cases e24.symm.trans e24'
  cases e15.symm.trans e15'
  exact ⟨f, hf, kA, h3, h4⟩
theorem atop_nst {s : State} {args : Array Value} (hts : ∀ w ∈ lw_tbl, w.before args s = true) : ∀ w ∈ aNst, va_Nw w s := by
  have key : ∀ w ∈ aNst, w ∈ lw_tbl ∧ w.onTables = true := by
    intro w hw
    simp only [aNst, List.mem_cons, List.not_mem_nil, or_false] at hw
    rcases hw with rfl | rfl | rfl | rfl | rfl | rfl | rfl | rfl | rfl | rfl | rfl
    · exact ⟨atb_1 _ (List.mem_of_getElem? (i := 29) rfl), rfl⟩
    · exact ⟨atb_1 _ (List.mem_of_getElem? (i := 35) rfl), rfl⟩
    · exact ⟨atb_1 _ (List.mem_of_getElem? (i := 119) rfl), rfl⟩
    · exact ⟨atb_1 _ (List.mem_of_getElem? (i := 121) rfl), rfl⟩
    · exact ⟨atb_1 _ (List.mem_of_getElem? (i := 148) rfl), rfl⟩
    · exact ⟨atb_1 _ (List.mem_of_getElem? (i := 153) rfl), rfl⟩
    · exact ⟨atb_1 _ (List.mem_of_getElem? (i := 219) rfl), rfl⟩
    · exact ⟨atb_2 _ (List.mem_of_getElem? (i := 19) rfl), rfl⟩
    · exact ⟨atb_2 _ (List.mem_of_getElem? (i := 47) rfl), rfl⟩
    · exact ⟨atb_2 _ (List.mem_of_getElem? (i := 105) rfl), rfl⟩
    · exact ⟨atb_2 _ (List.mem_of_getElem? (i := 127) rfl), rfl⟩
  exact fun w hw => va_Nw.of (key w hw).2 (hts _ (key w hw).1)
theorem atop_el : ∀ j : Nat, j < 128 → (flatC (Jvm.Cond.and given_1 narrow_1))[13 + j]? = some (Cond.eq (.elem (.field (.string RX8 141) "java/lang/String" "value" "[B") (.int (Int32.ofNat j))) (.int (aBy.getD j 0))) := by decide +kernel
theorem atop_str {s : State} {args : Array Value} (hfl : ∀ c ∈ flatC (Jvm.Cond.and given_1 narrow_1), c.before args s = true) {A : Nat → Prop} (hA : ∀ a : Nat, a < s.heap.size → ¬ A a) : ∃ a1 a2 : Nat, vk_S 1 [128] [aBy] (fun _ => a1) (fun _ => a2) A s s.heap ∧ (Term.string RX8 141).eval args s none [] s = some (.ref a1) := by
  obtain ⟨adK, adV, h1, h2⟩ := vk_Sof (args := args) (s := s) (N := 1) (tm := fun _ => Term.string RX8 141) (len := [128]) (byt := [aBy]) (A := A) (fun i hi => by rw [show i = 0 by omega]; decide) (fun i hi => hfl _ (List.mem_of_getElem? (i := 9) rfl)) (fun i hi => hfl _ (List.mem_of_getElem? (i := 10) rfl)) (fun i hi => hfl _ (List.mem_of_getElem? (i := 11) rfl)) (fun i hi => by rw [show i = 0 by omega]; exact hfl _ (List.mem_of_getElem? (i := 12) rfl)) (fun i hi j hj => by
      rw [show i = 0 by omega] at hj ⊢
      simp only [List.getD_cons_zero] at hj ⊢
      exact hfl _ (List.mem_of_getElem? (atop_el j hj))) (fun i j hi hj hij => absurd (show i = j by omega) hij) hA
  refine ⟨adK 0, adV 0, ⟨fun i hi => ?_, fun i j hi hj _ => by omega⟩, h2 0 (by decide)⟩
  rw [show i = 0 by omega]
  exact h1.1 0 (by decide)
-- ===== end of PART A; then your names; then what follows =====
/-! THE CLAIM OUT OF ONE WALK OF THE LAW'S BODY. Your part is whole_start (and what it stands on); all else here is the same for every law, but numbers. -/
def R_law : String := "QuayClockLaw"
def lw_P (b : Addr) (xs : List Int32) (args : Array Value) (s : State) : Prop := args = #[.ref b] ∧ s.IntsAt b xs ∧ xs.length ≤ 3072 ∧ (Jvm.Cond.and given_1 narrow_1).before args s = true
def lw_Q (_ : Array Value) (s : State) (o : Outcome) (t : State) : Prop := o = .returned (some (.int 1)) ∧ Framed s o t [] 600000 7302250
def lw_Z (below : List Frame) (a : Array Value) (s : State) : State → Prop := fun t => ∃ o, t.status = .running ∧ Ended t below o ∧ lw_Q a s o t
/-- the law's own end, with 1 on the stack, nothing written that was there before, its room as the claim has it -/
theorem lw_ret {p : Program} {l : Launch} {e : Env} {s : State} {m : MethodId} {below : List Frame} {meth : Method} {c : Code} {b : Nat} (hx : p.tables.exec = Jvm.exec) (hb : c.code = code) (hr : meth.sig.returnType = ret) (hlocks : meth.locks = false) {pc : Nat} {H : Heap} {ls : Array Slot} (hdg : decode code pc = .ok (.ireturn, 1)) : W p l e room_1 s m #[Value.ref b] below meth c H [] 600000 7302250 (lw_Z below #[Value.ref b] s) (F0 m pc ls [.int 1]) := by
  intro T hT X
  obtain ⟨fs, hret, hrun, hended, hW, hframe⟩ := X.leave (v := some (.int 1)) (hlocks := hlocks) (fun h => by rw [hr] at h; cases h)
  have hmeth' : T.vm.method? m = some meth := X.method'
  refine ⟨T.setFrames fs, ?_, .returned (some (.int 1)), hrun, hended, rfl, ⟨_, rfl⟩, hW, hframe⟩
  jvm_step X.here [X.here.top, hx, hb, hdg, hmeth', hr, ret, narrow_b1]
  (try refine ⟨rfl, ?_⟩); (try refine ⟨rfl, ?_⟩)
  first | (intro acts; rw [hret _ acts rfl rfl rfl]) | rw [hret _ _ rfl rfl rfl]
  exact Steps.refl _
/-- what holds at the law's entry: the machine, the code, the tables' words (any of lw_tbl by 'hts w (by decide +kernel)'), the script of L ints xs at the cell b, what the Statement gives of the start (any of its parts by flat_of_before) -/
def lw_At (p : Program) (s : State) (m : MethodId) (meth : Method) (c : Code) (b L : Nat) (xs : Nat → Int32) : Prop :=
  p.tables.exec = Jvm.exec ∧ c.code = code ∧ meth.sig.returnType = ret ∧ c.maxLocals = 4 ∧ s.vm.findClass R_law = some m.cls ∧ (∀ w ∈ lw_tbl, w.before #[Value.ref b] s = true) ∧ va_X b L xs s s.heap ∧ b < s.heap.size ∧ meth.locks = false ∧ (Jvm.Cond.and given_1 narrow_1).before #[Value.ref b] s = true
theorem W_mono {p : Program} {l : Launch} {e : Env} {R : Room} {s : State} {m : MethodId} {args : Array Value} {below : List Frame} {meth : Method} {c : Code} {H : Heap} {locs : List Loc} {cells slots : Nat} {Q Q' : State → Prop} {g : JFrame} (h : W p l e R s m args below meth c H locs cells slots Q g) (hQ : ∀ t, Q t → Q' t) : W p l e R s m args below meth c H locs cells slots Q' g := fun T hT X => by
  obtain ⟨t, a, b⟩ := h T hT X
  exact ⟨t, a, hQ t b⟩
theorem whole_of (HL : aLawOK) {p : Program} {e : Env} {s : State} {m : MethodId} {below : List Frame} {meth : Method} {c : Code} (l : Launch) {b L : Nat} {xs : Nat → Int32} (hL : L ≤ 3072) (C0 : lw_At p s m meth c b L xs) : W p l e room_1 s m #[Value.ref b] below meth c s.heap [] 0 0 (lw_Z below #[Value.ref b] s) (entryFrame m ([Value.ref b] : List Value).toArray 4) := by
  obtain ⟨hx, hb, hr, hml, hown, hts, hX, hbl, hlocks, hgv⟩ := C0
  have hfl := flat_of_before _ hgv
  have htt : ∀ w ∈ aTT, w.before #[Value.ref b] s = true := fun w hw => hts w (aTT_in w hw)
  have hA : ∀ a : Nat, a < s.heap.size → ¬ (s.heap.size ≤ a) := fun a h => Nat.not_le.mpr h
  obtain ⟨D, hD⟩ := atop_D htt
  obtain ⟨cy, hcy, kA, hkA, hkd⟩ := atop_cy hts
  obtain ⟨a1, a2, hvk, hev⟩ := atop_str hfl hA
  have hz1 : va_Z "java/lang/String" "COMPACT_STRINGS" "Z" (.int 1) (fun q => s.heap.size ≤ q) s s.heap := va_Zof (hts _ (atb_3 _ (List.mem_of_getElem? (i := 1) rfl))) (htt _ wN_J0) (va_eqt (hfl _ (List.mem_of_getElem? (i := 4) rfl))) hA
  obtain ⟨fm, hfm, hfr⟩ := Cond.isRef_spec (hfl (Cond.isRef (.static "jdk/internal/util/Preconditions" "SIOOBE_FORMATTER" "Ljava/util/function/BiFunction;")) (List.mem_of_getElem? (i := 5) rfl))
  have hz2 : va_Z "jdk/internal/util/Preconditions" "SIOOBE_FORMATTER" "Ljava/util/function/BiFunction;" fm (fun q => s.heap.size ≤ q) s s.heap := va_Zof (hts _ (atb_3 _ (List.mem_of_getElem? (i := 17) rfl))) (htt _ wN_J3) hfm hA
  obtain ⟨n, σ', hrun, hc1, hc2⟩ := HL xs L hL
  obtain ⟨G, hG⟩ : ∃ G : aGl, G = (s.heap.size, D, cy, (fun u => if u = 0 then .ref b else if u = 1 then .ref a1 else if u = 2 then .ref a2 else fm), L, xs) := ⟨_, rfl⟩
  have hpp := aRun_snd G n 188 0 (aEnt 4 [.float 0]) [] aS0 (some (.int 1)) σ' (by rw [hG]; exact hrun)
  have hAG : aBelow G = fun q => s.heap.size ≤ q := by rw [hG]; rfl
  have hK : aKK G s s.heap := by
    refine ⟨⟨⟨?_, ?_⟩, atop_nst hts, ⟨?_, kA, by rw [hG]; exact hkA, by rw [hG]; exact hkd⟩, ⟨a1, by rw [hG]; rfl, vk_R.of (hts _ (atb_2 _ (List.mem_of_getElem? (i := 231) rfl))) hev⟩, ?_⟩, ⟨b, by rw [hG]; rfl, by rw [hG]; exact hX, by rw [hG]; exact hbl⟩, ⟨a1, a2, by rw [hG]; rfl, by rw [hG]; rfl, by rw [hAG]; exact hvk⟩, by rw [hAG]; exact hz1, by rw [hAG, hG]; exact hz2⟩
    · rw [hG]; exact hD
    · intro k q hq
      have hk : k < 12 := by
        have := (List.getElem?_eq_some_iff.mp hq).1
        simpa [aTys] using this
      have h1 := aTys_at (G := G) (k := k + 13) (by omega) (by omega)
      rw [show k + 13 - 13 = k by omega, hq] at h1
      cases h1
      rw [hG]
      exact hcy (k + 13) (by omega) (by omega)
    · intro C hC
      simp only [List.mem_cons, List.not_mem_nil, or_false] at hC
      rcases hC with rfl | rfl | rfl | rfl | rfl | rfl
      · exact va_AO.of (hts _ (atb_1 _ (List.mem_of_getElem? (i := 117) rfl)))
      · exact va_AO.of (hts _ (atb_1 _ (List.mem_of_getElem? (i := 217) rfl)))
      · exact va_AO.of (hts _ (atb_2 _ (List.mem_of_getElem? (i := 125) rfl)))
      · exact va_AO.of (hts _ (atb_1 _ (List.mem_of_getElem? (i := 115) rfl)))
      · exact va_AO.of (hts _ (atb_1 _ (List.mem_of_getElem? (i := 213) rfl)))
      · exact va_AO.of (hts _ (atb_1 _ (List.mem_of_getElem? (i := 215) rfl)))
    · intro u
      rw [hG]
      show (∃ a : Nat, (if u = 0 then Value.ref b else if u = 1 then .ref a1 else if u = 2 then .ref a2 else fm) = .ref a) ∨ (if u = 0 then Value.ref b else if u = 1 then .ref a1 else if u = 2 then .ref a2 else fm) = .null
      split
      · exact Or.inl ⟨_, rfl⟩
      · split
        · exact Or.inl ⟨_, rfl⟩
        · split
          · exact Or.inl ⟨_, rfl⟩
          · cases fm <;> simp [Value.isRef] at hfr ⊢
  have hb0 : G.1 = s.heap.size := by rw [hG]
  have hl := lv_entry ([.ref b]) (n := 4) (Nat.le_of_ble_eq_true rfl)
  rw [lg_entry_eq]
  have hg := hpp.1
  have hw := hpp.2 p l e room_1 s m #[Value.ref b] below meth c s.heap [] 0 0 600000 7302250 _ ⟨hx, hb, hr, hml, hown, htt, hlocks, fun h => absurd h (by decide), by decide, by decide⟩ hK (by omega) ⟨fun k q h => by simp [aW, aS0] at h, by rw [hb0]; rfl, va_S.rf, by show 0 + σ'.1 ≤ 600000 + 0; omega, by show 0 + σ'.2.1 ≤ 7302250 + 0; omega, Nat.le_refl _, Nat.le_refl _⟩ ⟨rfl, _, hl, ?_⟩
  · refine W_mono hw (fun t ht => ?_)
    obtain ⟨o, h1, h2, ⟨h3, -, -⟩, L', ⟨h4, h5, h6⟩, h7⟩ := ht
    refine ⟨o, h1, h2, h3, h4, h5, ?_⟩
    refine h6.weaken (fun y hy hlt => ?_) (Nat.le_refl _) (Nat.le_refl _)
    have h8 := h7 y hy
    rw [hAG] at h8
    exact absurd hlt (Nat.not_lt.mpr h8)
  · intro i v hi hv
    match i, hi with
    | 0, hi =>
      have : v = .float 0 := by simpa [aEnt, aEn] using hi.symm
      subst this
      have e1 : aT G (.float 0) = .ref b := by rw [hG]; rfl
      rw [e1]
      exact List.mem_cons_self
    | i + 1, hi =>
      have hm : v ∈ List.replicate 3 aU := List.mem_of_getElem? (i := i) (by simpa [aEnt, aEn] using hi)
      rw [(List.mem_replicate.mp hm).2] at hv
      exact absurd hv (by simp [aU, aOk])
theorem aLaw_ok : aLawOK := fun xs L hL => aLaw_of2 aMath2_ok xs L hL
theorem whole_start {p : Program} {e : Env} {s : State} {m : MethodId} {below : List Frame} {meth : Method} {c : Code} (l : Launch) {b L : Nat} {xs : Nat → Int32} (hL : L ≤ 3072) (C0 : lw_At p s m meth c b L xs) : W p l e room_1 s m #[Value.ref b] below meth c s.heap [] 0 0 (lw_Z below #[Value.ref b] s) (entryFrame m ([Value.ref b] : List Value).toArray 4) := whole_of aLaw_ok l hL C0
-- ===== YOUR PART ENDS =====
set_option maxHeartbeats 4000000 in
theorem lw_walk (l : Launch) (b : Addr) (xs : List Int32) : MetFree l x (headSpec (Jvm.Cond.code x code maxLocals ret :: tables_1) room_1) (lw_P b xs) (fun _ _ _ _ _ => True) lw_Q := by
  refine MetFree.of_bodyS (code := code) (maxLocals := maxLocals) (ret := ret) (by decide) ?_ ?_
  · intro args s m h hn
    obtain ⟨meth, c, h1, h2, h3, h4, h5, h6, -, -⟩ := Cond.code_spec hn (atoms_spec (ws := Jvm.Cond.code x code maxLocals ret :: tables_1) h _ List.mem_cons_self)
    exact ⟨meth, c, h1, h2, h3, h4, h5, h6⟩
  · intro p e s m args below meth c s₁ B hml0 hP _
    obtain ⟨rfl, hx, hbd, hgv⟩ := hP
    obtain ⟨scr, harrAt, hlist, hof, hsmall⟩ := hx
    obtain ⟨hcb, hkn, -, -⟩ := State.arrayAt?_spec harrAt
    have hown : s.vm.findClass R_law = some m.cls := findClass_of_methodNamed B.named
    have hts0 : ∀ c ∈ (Jvm.Cond.code x code maxLocals ret :: tables_1), c.before #[Value.ref b] s = true := atoms_spec (ws := Jvm.Cond.code x code maxLocals ret :: tables_1) B.pre
    have hts : ∀ w ∈ lw_tbl, w.before #[Value.ref b] s = true := k2_hts_sels lw_privs (fun w hw => hts0 w (List.mem_cons_of_mem _ hw)) lw_privs_ok
    have hml : c.maxLocals = 4 := B.maxLocals_eq (hts0 _ List.mem_cons_self)
    have X₀ : Stand p l e room_1 s m #[Value.ref b] below meth c s₁ [] 0 0 := Stand.of_body B
    have hh0 : s₁.heap = s.heap := by rw [B.state]; rfl
    have hsz : scr.slots.size = xs.length := by rw [← Array.length_toList, hlist, List.length_map]
    have hval : ∀ j : Nat, j < xs.length → scr.slots[j]? = some (.int (xs.getD j 0)) := fun j hj => by
      rw [← Array.getElem?_toList, hlist]
      simp [hj]
    have hbl : b < s.heap.size := (Array.getElem?_eq_some_iff.mp hcb).1
    have hX : va_X b xs.length (fun j => xs.getD j 0) s s.heap := ⟨scr, hcb, hof, hkn, hsz, hval⟩
    have K : W p l e room_1 s m #[Value.ref b] below meth c s₁.heap [] 0 0 (lw_Z below #[Value.ref b] s) (entryFrame m ([Value.ref b] : List Value).toArray 4) := by
      rw [hh0]
      exact whole_start l hbd ⟨B.exec, B.bytes, B.returns, hml, hown, hts, hX, hbl, B.notSynchronized, hgv⟩
    obtain ⟨t, a1, o, b1, b2, b3⟩ := K s₁ rfl X₀
    exact ⟨t, o, a1, b1, b2, b3⟩
theorem lw_pre_spec {args : Array Value} {s : State} (h : (Jvm.Cond.and given_1 narrow_1).before args s = true) (hr : rest_1_c.before args s = true) : ∃ (b : Addr) (xs : List Int32), lw_P b xs args s := by
  have hs := flat_of_before _ h
  have hq := flat_of_before _ hr
  have hc : (Cond.count 1).before args s = true := hs _ (by decide +kernel)
  have harr : (Cond.arrayOf (.arg 0) .int).before args s = true := hs _ (by decide +kernel)
  have hle : (Cond.le (.length (.arg 0)) (.int 3072)).before args s = true := hs _ (by decide +kernel)
  have hlen : (Cond.isInt (.length (.arg 0))).before args s = true := hq _ (by decide +kernel)
  have hall : (Cond.all (.arg 0) (.isInt (.elem (.arg 0) (.index 0)))).before args s = true := hq _ (by decide +kernel)
  obtain ⟨b, xs, hb, hx⟩ := State.ints_of_pre rfl harr hlen hall
  have hsm : xs.length < 2 ^ 31 := hx.choose_spec.2.2.2
  have hev : (Term.length (.arg 0)).eval args s none [] s = some (.int xs.length.toInt32) := hx.length_eval hb
  have hv := Cond.le_ints hev (show (Term.int 3072).eval args s none [] s = some (.int 3072) from rfl)
  have hd : xs.length.toInt32 ≤ 3072 := by
    simpa [Cond.before, Cond.holds, hv] using hle
  have hN : xs.length ≤ 3072 := (Int32.ofNat_le_ofNat hsm (by decide)).mp (show Int32.ofNat xs.length ≤ Int32.ofNat 3072 from hd)
  exact ⟨b, xs, Cond.one_arg hc (show args[0]? = some (.ref b) from hb), hx, hN, h⟩
theorem lw_comes (l : Launch) : Comes l x (Jvm.Cond.code x code maxLocals ret :: tables_1) room_1 (fun tb e args s => Calls_1 tb e args s ∧ rest_1 tb e args s ∧ Pre_1 tb e args s)
    (fun _ _ args s o t => lw_Q args s o t) := by
  intro p e ha hc hk s m args below hf hfit hheap happ hpre
  obtain ⟨b, xs, hP⟩ := lw_pre_spec hpre.2.2 hpre.2.1
  obtain ⟨k, o, h1, h2, h3, hQ⟩ := lw_walk l b xs p e ha hc hk s m args below hf ((Spec.applies_iff_loose hf).mp happ).1 hP trivial
  exact ⟨k, o, h1, h2, h3, hQ⟩
theorem lw_frame {s t : State} {o : Outcome} {args : Array Value} (h : Framed s o t [] 600000 7302250) :
    Framed s o t (fieldLocs frame_1_writes args s ++ arrayLocs frame_1_arrays args s ++ staticLocs frame_1_statics s) 600000 7302250 := h
theorem lw_limb (L : Cond) (hL : ∀ (args : Array Value) (s t : State), L.after args s (.returned (some (.int 1))) t = true) :
    ArmFor flags0 classFile x code maxLocals ret World_1 tables_1 room_1 Calls_1 rest_1 Pre_1
      (fun tb e a s o t => postC L tb e a s o t ∧ Framed s o t (fieldLocs frame_1_writes a s ++ arrayLocs frame_1_arrays a s ++ staticLocs frame_1_statics s) 600000 7302250) := by
  intro l _ _ _ p e ha hc hk s m args below hf hfit hheap happ hpre
  obtain ⟨k, o, h1, h2, h3, rfl, hF⟩ := lw_comes l p e ha hc hk s m args below hf hfit hheap happ hpre
  exact ⟨k, _, h1, h2, h3, hL args s _, lw_frame hF⟩
theorem i_vc : Claimed_1_1 ∧ Claimed_1_2 := ⟨lw_limb limb_1_1 (fun args s t => by simp [limb_1_1, Cond.after, Cond.holds, Cond.value]), lw_limb limb_1_2 (fun args s t => Cond.after_iff.mpr (by
  first | (rw [show limb_1_2 = Cond.eq .result (.int 1) from rfl, Cond.eq_ints (x := 1) (y := 1) rfl rfl]; simp; done) | (simp [limb_1_2, Cond.value, Term.eval]; done)))⟩
