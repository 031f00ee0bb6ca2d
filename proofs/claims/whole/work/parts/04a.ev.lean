/-! ===== runs of the small machine as rules: where a run comes out ===== -/
def Ev (xs : Nat → Int32) (L j pc : Nat) (ls st : List Value) (σ : aSt) (v : Option Value) (σ' : aSt) : Prop := ∃ N : Nat, ∀ n, N ≤ n → aRun xs L n j pc ls st σ = some (v, σ')
/-- a whole call -/
def Cal (xs : Nat → Int32) (L j : Nat) (as : List Value) (σ : aSt) (v : Option Value) (σ' : aSt) : Prop := Ev xs L j 0 (aEnt (aML j) as) [] σ v σ'
-- plain words for the functional forms
def cO {β : Type} (c : Prop) [Decidable c] (x : Option β) : Option β := if c then x else none
def oB {α β : Type} (x : Option (α × aSt)) (f : α → aSt → Option β) : Option β := match x with
  | some (a, σ) => f a σ
  | none => none
def lt {α β : Type} (x : α) (f : α → β) : β := f x
theorem cO_inv {β : Type} {c : Prop} [Decidable c] {x : Option β} {q : β} (h : cO c x = some q) : c ∧ x = some q := by
  unfold cO at h
  split at h
  · exact ⟨by assumption, h⟩
  · cases h
theorem oB_inv {α β : Type} {x : Option (α × aSt)} {f : α → aSt → Option β} {q : β} (h : oB x f = some q) : ∃ a σ, x = some (a, σ) ∧ f a σ = some q := by
  unfold oB at h
  split at h
  · exact ⟨_, _, rfl, h⟩
  · cases h
theorem lt_inv {α β : Type} {x : α} {f : α → β} {q : β} (h : lt x f = q) : ∃ y, y = x ∧ f y = q := ⟨x, rfl, h⟩
section EV
variable {xs : Nat → Int32} {L j pc : Nat} {ls st r : List Value} {σ : aSt} {v : Option Value} {σ' : aSt}
theorem ev_one {o : aStp} (ho : aPr xs L j pc = o) (h : ∃ N : Nat, ∀ n, N ≤ n → o (fun j' as σ' => cIf ((aEn as).length ≤ aML j') (aRun xs L n j' 0 (aEnt (aML j') as) [] σ')) (fun pc' ls' st' σ' => aRun xs L n j pc' ls' st' σ') ls st σ = some (v, σ')) : Ev xs L j pc ls st σ v σ' := by
  obtain ⟨N, hN⟩ := h
  refine ⟨N + 1, fun n hn => ?_⟩
  obtain ⟨m, rfl⟩ : ∃ m, n = m + 1 := ⟨n - 1, by omega⟩
  show aPr xs L j pc _ _ ls st σ = _
  rw [ho]
  exact hN m (by omega)
theorem ev_push {x : Value} {p : Nat} (ho : aPr xs L j pc = oPush x p) (h : Ev xs L j p ls (x :: st) σ v σ') : Ev xs L j pc ls st σ v σ' := ev_one ho h
theorem ev_goto {p : Nat} (ho : aPr xs L j pc = oGoto p) (h : Ev xs L j p ls st σ v σ') : Ev xs L j pc ls st σ v σ' := ev_one ho h
theorem ev_iload {i p : Nat} {x : Int32} (ho : aPr xs L j pc = oIload i p) (hl : gL ls i = [.int x]) (h : Ev xs L j p ls (.int x :: st) σ v σ') : Ev xs L j pc ls st σ v σ' := by
  obtain ⟨N, hN⟩ := h
  exact ev_one ho ⟨N, fun n hn => by show pI (gL ls i) _ = _; rw [hl]; exact hN n hn⟩
theorem ev_lload {i p : Nat} {x : Int64} (ho : aPr xs L j pc = oLload i p) (hl : gL ls i = [.long x]) (h : Ev xs L j p ls (.long x :: st) σ v σ') : Ev xs L j pc ls st σ v σ' := by
  obtain ⟨N, hN⟩ := h
  exact ev_one ho ⟨N, fun n hn => by show pJ (gL ls i) _ = _; rw [hl]; exact hN n hn⟩
theorem ev_aload {i p a : Nat} (ho : aPr xs L j pc = oAload i p) (hl : gL ls i = [.ref a]) (h : Ev xs L j p ls (.ref a :: st) σ v σ') : Ev xs L j pc ls st σ v σ' := by
  obtain ⟨N, hN⟩ := h
  exact ev_one ho ⟨N, fun n hn => by show pA (gL ls i) _ = _; rw [hl]; exact hN n hn⟩
theorem ev_aloadF {i p : Nat} {a : UInt32} (ho : aPr xs L j pc = oAload i p) (hl : gL ls i = [.float a]) (h : Ev xs L j p ls (.float a :: st) σ v σ') : Ev xs L j pc ls st σ v σ' := by
  obtain ⟨N, hN⟩ := h
  exact ev_one ho ⟨N, fun n hn => by show pA (gL ls i) _ = _; rw [hl]; exact hN n hn⟩
theorem ev_if {c : Prop} [Decidable c] {x y : aR} (hc : c) (h : x = some (v, σ')) : (if c then x else y) = some (v, σ') := by rw [if_pos hc]; exact h
theorem ev_cif {c : Prop} [Decidable c] {x : aR} (hc : c) (h : x = some (v, σ')) : cIf c x = some (v, σ') := by unfold cIf; rw [if_pos hc]; exact h
theorem ev_istore {i p : Nat} {x : Int32} {ls' : List Value} (ho : aPr xs L j pc = oIstore i p) (hi : i < ls.length) (hl : aS1 ls i (.int x) = ls') (h : Ev xs L j p ls' r σ v σ') : Ev xs L j pc ls (.int x :: r) σ v σ' := by
  subst hl
  obtain ⟨N, hN⟩ := h
  exact ev_one ho ⟨N, fun n hn => ev_cif hi (hN n hn)⟩
theorem ev_astore {i p a : Nat} {ls' : List Value} (ho : aPr xs L j pc = oAstore i p) (hi : i < ls.length) (hl : aS1 ls i (.ref a) = ls') (h : Ev xs L j p ls' r σ v σ') : Ev xs L j pc ls (.ref a :: r) σ v σ' := by
  subst hl
  obtain ⟨N, hN⟩ := h
  exact ev_one ho ⟨N, fun n hn => ev_cif hi (hN n hn)⟩
theorem ev_lstore {i p : Nat} {x : Int64} {ls' : List Value} (ho : aPr xs L j pc = oLstore i p) (hi : i + 1 < ls.length) (hl : aS2 ls i (.long x) = ls') (h : Ev xs L j p ls' r σ v σ') : Ev xs L j pc ls (.long x :: r) σ v σ' := by
  subst hl
  obtain ⟨N, hN⟩ := h
  exact ev_one ho ⟨N, fun n hn => ev_cif hi (hN n hn)⟩
theorem ev_iinc {i p : Nat} {d x z : Int32} {ls' : List Value} (ho : aPr xs L j pc = oIinc i d p) (hg : gL ls i = [.int x]) (hz : x + d = z) (hi : i < ls.length) (hl : aS1 ls i (.int z) = ls') (h : Ev xs L j p ls' st σ v σ') : Ev xs L j pc ls st σ v σ' := by
  subst hz
  subst hl
  obtain ⟨N, hN⟩ := h
  exact ev_one ho ⟨N, fun n hn => by show pI (gL ls i) _ = _; rw [hg]; exact ev_cif hi (hN n hn)⟩
theorem ev_bin {f : Int32 → Int32 → Int32} {p : Nat} {x y z : Int32} (ho : aPr xs L j pc = oBin f p) (hz : f x y = z) (h : Ev xs L j p ls (.int z :: r) σ v σ') : Ev xs L j pc ls (.int y :: .int x :: r) σ v σ' := by
  subst hz
  exact ev_one ho h
theorem ev_binL {f : Int64 → Int64 → Int64} {p : Nat} {x y z : Int64} (ho : aPr xs L j pc = oBinL f p) (hz : f x y = z) (h : Ev xs L j p ls (.long z :: r) σ v σ') : Ev xs L j pc ls (.long y :: .long x :: r) σ v σ' := by
  subst hz
  exact ev_one ho h
theorem ev_div {p : Nat} {x y : Int32} (ho : aPr xs L j pc = oDiv p) (hy : ¬ y = 0) (h : Ev xs L j p ls (.int (x / y) :: r) σ v σ') : Ev xs L j pc ls (.int y :: .int x :: r) σ v σ' := by
  obtain ⟨N, hN⟩ := h
  exact ev_one ho ⟨N, fun n hn => ev_cif hy (hN n hn)⟩
theorem ev_un {f : Int32 → Int32} {p : Nat} {x z : Int32} (ho : aPr xs L j pc = oUn f p) (hz : f x = z) (h : Ev xs L j p ls (.int z :: r) σ v σ') : Ev xs L j pc ls (.int x :: r) σ v σ' := by
  subst hz
  exact ev_one ho h
theorem ev_i2l {p : Nat} {x : Int32} (ho : aPr xs L j pc = oI2l p) (h : Ev xs L j p ls (.long x.toInt64 :: r) σ v σ') : Ev xs L j pc ls (.int x :: r) σ v σ' := ev_one ho h
theorem ev_lcmp {p : Nat} {x y : Int64} (ho : aPr xs L j pc = oLcmp p) (h : Ev xs L j p ls (.int (lg_cmp x y) :: r) σ v σ') : Ev xs L j pc ls (.long y :: .long x :: r) σ v σ' := ev_one ho h
theorem ev_dupI {p : Nat} {x : Int32} (ho : aPr xs L j pc = oDup p) (h : Ev xs L j p ls (.int x :: .int x :: r) σ v σ') : Ev xs L j pc ls (.int x :: r) σ v σ' := ev_one ho h
theorem ev_dupR {p a : Nat} (ho : aPr xs L j pc = oDup p) (h : Ev xs L j p ls (.ref a :: .ref a :: r) σ v σ') : Ev xs L j pc ls (.ref a :: r) σ v σ' := ev_one ho h
theorem ev_dup2 {p a : Nat} {x : Int32} (ho : aPr xs L j pc = oDup2 p) (h : Ev xs L j p ls (.int x :: .ref a :: .int x :: .ref a :: r) σ v σ') : Ev xs L j pc ls (.int x :: .ref a :: r) σ v σ' := ev_one ho h
theorem ev_popI {p : Nat} {x : Int32} (ho : aPr xs L j pc = oPop p) (h : Ev xs L j p ls r σ v σ') : Ev xs L j pc ls (.int x :: r) σ v σ' := ev_one ho h
theorem ev_ifeq {t p : Nat} {x : Int32} (ho : aPr xs L j pc = oIfeq t p) (ht : x = 0 → Ev xs L j t ls r σ v σ') (hf : ¬ (x = 0) → Ev xs L j p ls r σ v σ') : Ev xs L j pc ls (.int x :: r) σ v σ' := by
  by_cases hc : x = 0
  · obtain ⟨N, hN⟩ := ht hc
    exact ev_one ho ⟨N, fun n hn => (if_pos hc).trans (hN n hn)⟩
  · obtain ⟨N, hN⟩ := hf hc
    exact ev_one ho ⟨N, fun n hn => (if_neg hc).trans (hN n hn)⟩
theorem ev_ifne {t p : Nat} {x : Int32} (ho : aPr xs L j pc = oIfne t p) (ht : x ≠ 0 → Ev xs L j t ls r σ v σ') (hf : ¬ (x ≠ 0) → Ev xs L j p ls r σ v σ') : Ev xs L j pc ls (.int x :: r) σ v σ' := by
  by_cases hc : x ≠ 0
  · obtain ⟨N, hN⟩ := ht hc
    exact ev_one ho ⟨N, fun n hn => (if_pos hc).trans (hN n hn)⟩
  · obtain ⟨N, hN⟩ := hf hc
    exact ev_one ho ⟨N, fun n hn => (if_neg hc).trans (hN n hn)⟩
theorem ev_iflt {t p : Nat} {x : Int32} (ho : aPr xs L j pc = oIflt t p) (ht : x < 0 → Ev xs L j t ls r σ v σ') (hf : ¬ (x < 0) → Ev xs L j p ls r σ v σ') : Ev xs L j pc ls (.int x :: r) σ v σ' := by
  by_cases hc : x < 0
  · obtain ⟨N, hN⟩ := ht hc
    exact ev_one ho ⟨N, fun n hn => (if_pos hc).trans (hN n hn)⟩
  · obtain ⟨N, hN⟩ := hf hc
    exact ev_one ho ⟨N, fun n hn => (if_neg hc).trans (hN n hn)⟩
theorem ev_ifge {t p : Nat} {x : Int32} (ho : aPr xs L j pc = oIfge t p) (ht : 0 ≤ x → Ev xs L j t ls r σ v σ') (hf : ¬ (0 ≤ x) → Ev xs L j p ls r σ v σ') : Ev xs L j pc ls (.int x :: r) σ v σ' := by
  by_cases hc : 0 ≤ x
  · obtain ⟨N, hN⟩ := ht hc
    exact ev_one ho ⟨N, fun n hn => (if_pos hc).trans (hN n hn)⟩
  · obtain ⟨N, hN⟩ := hf hc
    exact ev_one ho ⟨N, fun n hn => (if_neg hc).trans (hN n hn)⟩
theorem ev_ifgt {t p : Nat} {x : Int32} (ho : aPr xs L j pc = oIfgt t p) (ht : 0 < x → Ev xs L j t ls r σ v σ') (hf : ¬ (0 < x) → Ev xs L j p ls r σ v σ') : Ev xs L j pc ls (.int x :: r) σ v σ' := by
  by_cases hc : 0 < x
  · obtain ⟨N, hN⟩ := ht hc
    exact ev_one ho ⟨N, fun n hn => (if_pos hc).trans (hN n hn)⟩
  · obtain ⟨N, hN⟩ := hf hc
    exact ev_one ho ⟨N, fun n hn => (if_neg hc).trans (hN n hn)⟩
theorem ev_ifle {t p : Nat} {x : Int32} (ho : aPr xs L j pc = oIfle t p) (ht : x ≤ 0 → Ev xs L j t ls r σ v σ') (hf : ¬ (x ≤ 0) → Ev xs L j p ls r σ v σ') : Ev xs L j pc ls (.int x :: r) σ v σ' := by
  by_cases hc : x ≤ 0
  · obtain ⟨N, hN⟩ := ht hc
    exact ev_one ho ⟨N, fun n hn => (if_pos hc).trans (hN n hn)⟩
  · obtain ⟨N, hN⟩ := hf hc
    exact ev_one ho ⟨N, fun n hn => (if_neg hc).trans (hN n hn)⟩
theorem ev_ceq {t p : Nat} {x y : Int32} (ho : aPr xs L j pc = oCeq t p) (ht : x = y → Ev xs L j t ls r σ v σ') (hf : ¬ (x = y) → Ev xs L j p ls r σ v σ') : Ev xs L j pc ls (.int y :: .int x :: r) σ v σ' := by
  by_cases hc : x = y
  · obtain ⟨N, hN⟩ := ht hc
    exact ev_one ho ⟨N, fun n hn => (if_pos hc).trans (hN n hn)⟩
  · obtain ⟨N, hN⟩ := hf hc
    exact ev_one ho ⟨N, fun n hn => (if_neg hc).trans (hN n hn)⟩
theorem ev_cne {t p : Nat} {x y : Int32} (ho : aPr xs L j pc = oCne t p) (ht : x ≠ y → Ev xs L j t ls r σ v σ') (hf : ¬ (x ≠ y) → Ev xs L j p ls r σ v σ') : Ev xs L j pc ls (.int y :: .int x :: r) σ v σ' := by
  by_cases hc : x ≠ y
  · obtain ⟨N, hN⟩ := ht hc
    exact ev_one ho ⟨N, fun n hn => (if_pos hc).trans (hN n hn)⟩
  · obtain ⟨N, hN⟩ := hf hc
    exact ev_one ho ⟨N, fun n hn => (if_neg hc).trans (hN n hn)⟩
theorem ev_clt {t p : Nat} {x y : Int32} (ho : aPr xs L j pc = oClt t p) (ht : x < y → Ev xs L j t ls r σ v σ') (hf : ¬ (x < y) → Ev xs L j p ls r σ v σ') : Ev xs L j pc ls (.int y :: .int x :: r) σ v σ' := by
  by_cases hc : x < y
  · obtain ⟨N, hN⟩ := ht hc
    exact ev_one ho ⟨N, fun n hn => (if_pos hc).trans (hN n hn)⟩
  · obtain ⟨N, hN⟩ := hf hc
    exact ev_one ho ⟨N, fun n hn => (if_neg hc).trans (hN n hn)⟩
theorem ev_cge {t p : Nat} {x y : Int32} (ho : aPr xs L j pc = oCge t p) (ht : y ≤ x → Ev xs L j t ls r σ v σ') (hf : ¬ (y ≤ x) → Ev xs L j p ls r σ v σ') : Ev xs L j pc ls (.int y :: .int x :: r) σ v σ' := by
  by_cases hc : y ≤ x
  · obtain ⟨N, hN⟩ := ht hc
    exact ev_one ho ⟨N, fun n hn => (if_pos hc).trans (hN n hn)⟩
  · obtain ⟨N, hN⟩ := hf hc
    exact ev_one ho ⟨N, fun n hn => (if_neg hc).trans (hN n hn)⟩
theorem ev_cgt {t p : Nat} {x y : Int32} (ho : aPr xs L j pc = oCgt t p) (ht : y < x → Ev xs L j t ls r σ v σ') (hf : ¬ (y < x) → Ev xs L j p ls r σ v σ') : Ev xs L j pc ls (.int y :: .int x :: r) σ v σ' := by
  by_cases hc : y < x
  · obtain ⟨N, hN⟩ := ht hc
    exact ev_one ho ⟨N, fun n hn => (if_pos hc).trans (hN n hn)⟩
  · obtain ⟨N, hN⟩ := hf hc
    exact ev_one ho ⟨N, fun n hn => (if_neg hc).trans (hN n hn)⟩
theorem ev_cle {t p : Nat} {x y : Int32} (ho : aPr xs L j pc = oCle t p) (ht : x ≤ y → Ev xs L j t ls r σ v σ') (hf : ¬ (x ≤ y) → Ev xs L j p ls r σ v σ') : Ev xs L j pc ls (.int y :: .int x :: r) σ v σ' := by
  by_cases hc : x ≤ y
  · obtain ⟨N, hN⟩ := ht hc
    exact ev_one ho ⟨N, fun n hn => (if_pos hc).trans (hN n hn)⟩
  · obtain ⟨N, hN⟩ := hf hc
    exact ev_one ho ⟨N, fun n hn => (if_neg hc).trans (hN n hn)⟩
/-- where a table of targets leads -/
def aSwt (lo hi : Int) (ts : List Nat) (d : Nat) (x : Int32) : Option Nat := if x.toInt < lo ∨ hi < x.toInt then some d else ts[(x.toInt - lo).toNat]?
theorem ev_tab {lo hi : Int} {ts : List Nat} {d t : Nat} {x : Int32} (ho : aPr xs L j pc = oTab lo hi ts d) (ht : aSwt lo hi ts d x = some t) (h : Ev xs L j t ls r σ v σ') : Ev xs L j pc ls (.int x :: r) σ v σ' := by
  obtain ⟨N, hN⟩ := h
  refine ev_one ho ⟨N, fun n hn => ?_⟩
  show (if x.toInt < lo ∨ hi < x.toInt then _ else _) = _
  unfold aSwt at ht
  split at ht
  · next hc =>
    cases ht
    exact (if_pos hc).trans (hN n hn)
  · next hc =>
    rw [if_neg hc, ht]
    exact hN n hn
theorem aSwt_d {lo hi : Int} {ts : List Nat} {d : Nat} {x : Int32} (nd : List Int32) (hh : hi = lo + (ts.length : Int) - 1) (hs : (List.range ts.length).all (fun i => ts.getD i 0 == d || nd.contains (Int32.ofInt (lo + (i : Int)))) = true) (hx : ∀ k ∈ nd, x ≠ k) : aSwt lo hi ts d x = some d := by
  unfold aSwt
  split
  · rfl
  · next hc =>
    have h1 : ¬ x.toInt < lo := fun q => hc (Or.inl q)
    have h2 : ¬ hi < x.toInt := fun q => hc (Or.inr q)
    have hi2 : (x.toInt - lo).toNat < ts.length := by omega
    have h3 := List.all_eq_true.mp hs (x.toInt - lo).toNat (List.mem_range.mpr hi2)
    simp only [Bool.or_eq_true, beq_iff_eq, List.contains_iff_mem] at h3
    rcases h3 with h3 | h3
    · rw [List.getElem?_eq_getElem hi2]
      rw [List.getD_eq_getElem?_getD, List.getElem?_eq_getElem hi2] at h3
      exact congrArg some h3
    · exfalso
      refine hx _ h3 ?_
      rw [show lo + (((x.toInt - lo).toNat : Nat) : Int) = x.toInt by omega, Int32.ofInt_toInt]
theorem ev_look {p0 t : Nat} {ps : List (Int × Int)} {d : Int} {x : Int32} (ho : aPr xs L j pc = oLook p0 ps d) (ht : ((p0 : Int) + Op.lookupswitch.offset ps d x.toInt).toNat = t) (h : Ev xs L j t ls r σ v σ') : Ev xs L j pc ls (.int x :: r) σ v σ' := by
  subst ht
  exact ev_one ho h
theorem ev_getI {ci f p a : Nat} (ho : aPr xs L j pc = oGetI ci f p) (hs : a < σ.1 ∧ (aH σ a).1 = ci) (h : Ev xs L j p ls (.int (aI σ a f) :: r) σ v σ') : Ev xs L j pc ls (.ref a :: r) σ v σ' := by
  obtain ⟨N, hN⟩ := h
  exact ev_one ho ⟨N, fun n hn => ev_cif hs (hN n hn)⟩
theorem ev_getR {ci f p a b : Nat} (ho : aPr xs L j pc = oGetR ci f p) (hs : a < σ.1 ∧ (aH σ a).1 = ci) (hb : aP σ a f = some b) (h : Ev xs L j p ls (.ref b :: r) σ v σ') : Ev xs L j pc ls (.ref a :: r) σ v σ' := by
  obtain ⟨N, hN⟩ := h
  refine ev_one ho ⟨N, fun n hn => ev_cif hs ?_⟩
  rw [hb]
  exact hN n hn
theorem ev_putI {ci f p a : Nat} {x : Int32} {σ1 : aSt} (ho : aPr xs L j pc = oPutI ci f p) (hs : a < σ.1 ∧ (aH σ a).1 = ci) (h1 : σ1 = aWI σ a f x) (h : Ev xs L j p ls r σ1 v σ') : Ev xs L j pc ls (.int x :: .ref a :: r) σ v σ' := by
  subst h1
  obtain ⟨N, hN⟩ := h
  exact ev_one ho ⟨N, fun n hn => ev_cif hs (hN n hn)⟩
theorem ev_putZ {ci f p a : Nat} {x : Int32} {σ1 : aSt} (ho : aPr xs L j pc = oPutZ ci f p) (hs : a < σ.1 ∧ (aH σ a).1 = ci) (hx : x = 0 ∨ x = 1) (h1 : σ1 = aWI σ a f x) (h : Ev xs L j p ls r σ1 v σ') : Ev xs L j pc ls (.int x :: .ref a :: r) σ v σ' := by
  subst h1
  obtain ⟨N, hN⟩ := h
  exact ev_one ho ⟨N, fun n hn => ev_cif ⟨hs.1, hs.2, hx⟩ (hN n hn)⟩
theorem ev_putR {ci f p a b : Nat} {σ1 : aSt} (ho : aPr xs L j pc = oPutR ci f p) (hs : a < σ.1 ∧ (aH σ a).1 = ci) (h1 : σ1 = aWP σ a f (some b)) (h : Ev xs L j p ls r σ1 v σ') : Ev xs L j pc ls (.ref b :: .ref a :: r) σ v σ' := by
  subst h1
  obtain ⟨N, hN⟩ := h
  exact ev_one ho ⟨N, fun n hn => ev_cif hs (hN n hn)⟩
/-- a cell is an array of a kind and a length -/
def aAr (σ : aSt) (a kd n : Nat) : Prop := a < σ.1 ∧ aH σ a = (kd, n)
theorem ev_aldI {kd p a n k : Nat} {i : Int32} (ho : aPr xs L j pc = oAldI kd p) (hs : aAr σ a kd n) (hi : ¬ (i < 0 ∨ n ≤ i.toNatClampNeg)) (hk : i.toNatClampNeg = k) (h : Ev xs L j p ls (.int (aI σ a k) :: r) σ v σ') : Ev xs L j pc ls (.int i :: .ref a :: r) σ v σ' := by
  subst hk
  obtain ⟨N, hN⟩ := h
  exact ev_one ho ⟨N, fun n hn => ev_cif ⟨hs.1, by rw [hs.2], by rw [hs.2]; exact hi⟩ (hN n hn)⟩
theorem ev_aldJ {p a n k : Nat} {i : Int32} (ho : aPr xs L j pc = oAldJ p) (hs : aAr σ a 16 n) (hi : ¬ (i < 0 ∨ n ≤ i.toNatClampNeg)) (hk : i.toNatClampNeg = k) (h : Ev xs L j p ls (.long (aJ σ a k) :: r) σ v σ') : Ev xs L j pc ls (.int i :: .ref a :: r) σ v σ' := by
  subst hk
  obtain ⟨N, hN⟩ := h
  exact ev_one ho ⟨N, fun n hn => ev_cif ⟨hs.1, by rw [hs.2], by rw [hs.2]; exact hi⟩ (hN n hn)⟩
theorem ev_aldR {kd p a n b : Nat} {i : Int32} (ho : aPr xs L j pc = oAldR p) (hs : aAr σ a kd n) (hk : 17 < kd ∧ kd < 25) (hi : ¬ (i < 0 ∨ n ≤ i.toNatClampNeg)) (hb : aP σ a i.toNatClampNeg = some b) (h : Ev xs L j p ls (.ref b :: r) σ v σ') : Ev xs L j pc ls (.int i :: .ref a :: r) σ v σ' := by
  obtain ⟨N, hN⟩ := h
  refine ev_one ho ⟨N, fun n hn => ev_cif ⟨hs.1, by rw [hs.2]; exact hk.1, by rw [hs.2]; exact hk.2, by rw [hs.2]; exact hi⟩ ?_⟩
  rw [hb]
  exact hN n hn
theorem ev_astI {kd p a n k : Nat} {f : Int32 → Int32} {i x z : Int32} {σ1 : aSt} (ho : aPr xs L j pc = oAstI kd f p) (hs : aAr σ a kd n) (hi : ¬ (i < 0 ∨ n ≤ i.toNatClampNeg)) (hk : i.toNatClampNeg = k) (hz : f x = z) (h1 : σ1 = aWI σ a k z) (h : Ev xs L j p ls r σ1 v σ') : Ev xs L j pc ls (.int x :: .int i :: .ref a :: r) σ v σ' := by
  subst hz
  subst hk
  subst h1
  obtain ⟨N, hN⟩ := h
  exact ev_one ho ⟨N, fun n hn => ev_cif ⟨hs.1, by rw [hs.2], by rw [hs.2]; exact hi⟩ (hN n hn)⟩
theorem ev_astJ {p a n k : Nat} {i : Int32} {x : Int64} {σ1 : aSt} (ho : aPr xs L j pc = oAstJ p) (hs : aAr σ a 16 n) (hi : ¬ (i < 0 ∨ n ≤ i.toNatClampNeg)) (hk : i.toNatClampNeg = k) (h1 : σ1 = aWJ σ a k x) (h : Ev xs L j p ls r σ1 v σ') : Ev xs L j pc ls (.long x :: .int i :: .ref a :: r) σ v σ' := by
  subst hk
  subst h1
  obtain ⟨N, hN⟩ := h
  exact ev_one ho ⟨N, fun n hn => ev_cif ⟨hs.1, by rw [hs.2], by rw [hs.2]; exact hi⟩ (hN n hn)⟩
theorem ev_len {kd p a n : Nat} (ho : aPr xs L j pc = oLen p) (hs : aAr σ a kd n) (hk : 12 < kd ∧ kd < 25) (h : Ev xs L j p ls (.int (Int32.ofNat n) :: r) σ v σ') : Ev xs L j pc ls (.ref a :: r) σ v σ' := by
  obtain ⟨N, hN⟩ := h
  refine ev_one ho ⟨N, fun n hn => ev_cif ⟨hs.1, by rw [hs.2]; exact hk.1, by rw [hs.2]; exact hk.2⟩ ?_⟩
  rw [hs.2]
  exact hN n hn
theorem ev_retI {x : Int32} (ho : aPr xs L j pc = oRetI) : Ev xs L j pc ls [.int x] σ (some (.int x)) σ := ev_one ho ⟨0, fun n _ => by show cIf (([] : List Value) = []) _ = _; exact ev_cif rfl rfl⟩
theorem ev_retZ {x : Int32} {f : Int32 → Int32} (ho : aPr xs L j pc = oRetZ f) (hx : f x = x) : Ev xs L j pc ls [.int x] σ (some (.int x)) σ := ev_one ho ⟨0, fun n _ => ev_cif ⟨rfl, hx⟩ rfl⟩
theorem ev_retL {x : Int64} (ho : aPr xs L j pc = oRetL) : Ev xs L j pc ls [.long x] σ (some (.long x)) σ := ev_one ho ⟨0, fun n _ => by show cIf (([] : List Value) = []) _ = _; exact ev_cif rfl rfl⟩
theorem ev_retA {a : Nat} (ho : aPr xs L j pc = oRetA) : Ev xs L j pc ls [.ref a] σ (some (.ref a)) σ := ev_one ho ⟨0, fun n _ => by show cIf (([] : List Value) = []) _ = _; exact ev_cif rfl rfl⟩
theorem ev_retV (ho : aPr xs L j pc = oRetV) : Ev xs L j pc ls [] σ none σ := ev_one ho ⟨0, fun n _ => ev_cif rfl rfl⟩
theorem ev_callV {j' na ci p b : Nat} {as : List Value} {v1 : Option Value} {σ1 : aSt} (ho : aPr xs L j pc = oCallV j' na ci p) (hs : b < σ.1 ∧ (aH σ b).1 = ci) (hd : st.drop na = .ref b :: r) (ht : (st.take na).reverse = as) (hn : as.length = na) (hr : aCat r ≤ 8) (hl : (aEn (.ref b :: as)).length ≤ aML j') (hc : Cal xs L j' (.ref b :: as) σ v1 σ1) (h : Ev xs L j p ls (v1.toList ++ r) σ1 v σ') : Ev xs L j pc ls st σ v σ' := by
  obtain ⟨N1, h1⟩ := hc
  obtain ⟨N2, h2⟩ := h
  refine ev_one ho ⟨N1 + N2, fun n hn2 => ?_⟩
  show pR (st.drop na) _ = _
  rw [hd]
  refine ev_cif ⟨by rw [← List.length_reverse, ht, hn], hs.1, hs.2, hr⟩ ?_
  rw [ht]
  have e : cIf ((aEn (.ref b :: as)).length ≤ aML j') (aRun xs L n j' 0 (aEnt (aML j') (.ref b :: as)) [] σ) = some (v1, σ1) := ev_cif hl (h1 n (by omega))
  show aRet (cIf ((aEn (.ref b :: as)).length ≤ aML j') (aRun xs L n j' 0 (aEnt (aML j') (.ref b :: as)) [] σ)) _ = _
  rw [e]
  exact h2 n (by omega)
theorem ev_callI {j' na p b : Nat} {as : List Value} {v1 : Option Value} {σ1 : aSt} (ho : aPr xs L j pc = oCallI j' na p) (hd : st.drop na = .ref b :: r) (ht : (st.take na).reverse = as) (hn : as.length = na) (hr : aCat r ≤ 8) (hl : (aEn (.ref b :: as)).length ≤ aML j') (hc : Cal xs L j' (.ref b :: as) σ v1 σ1) (h : Ev xs L j p ls (v1.toList ++ r) σ1 v σ') : Ev xs L j pc ls st σ v σ' := by
  obtain ⟨N1, h1⟩ := hc
  obtain ⟨N2, h2⟩ := h
  refine ev_one ho ⟨N1 + N2, fun n hn2 => ?_⟩
  show pR (st.drop na) _ = _
  rw [hd]
  refine ev_cif ⟨by rw [← List.length_reverse, ht, hn], hr⟩ ?_
  rw [ht]
  have e : cIf ((aEn (.ref b :: as)).length ≤ aML j') (aRun xs L n j' 0 (aEnt (aML j') (.ref b :: as)) [] σ) = some (v1, σ1) := ev_cif hl (h1 n (by omega))
  show aRet (cIf ((aEn (.ref b :: as)).length ≤ aML j') (aRun xs L n j' 0 (aEnt (aML j') (.ref b :: as)) [] σ)) _ = _
  rw [e]
  exact h2 n (by omega)
theorem ev_callS {j' na p : Nat} {as : List Value} {v1 : Option Value} {σ1 : aSt} (ho : aPr xs L j pc = oCallS j' na p) (hd : st.drop na = r) (ht : (st.take na).reverse = as) (hn : as.length = na) (hr : aCat r ≤ 8) (hl : (aEn as).length ≤ aML j') (hc : Cal xs L j' as σ v1 σ1) (h : Ev xs L j p ls (v1.toList ++ r) σ1 v σ') : Ev xs L j pc ls st σ v σ' := by
  obtain ⟨N1, h1⟩ := hc
  obtain ⟨N2, h2⟩ := h
  refine ev_one ho ⟨N1 + N2, fun n hn2 => ?_⟩
  refine ev_cif ⟨by rw [← List.length_reverse, ht, hn], by rw [hd]; exact hr⟩ ?_
  rw [ht, hd]
  have e : cIf ((aEn (as)).length ≤ aML j') (aRun xs L n j' 0 (aEnt (aML j') (as)) [] σ) = some (v1, σ1) := ev_cif hl (h1 n (by omega))
  show aRet (cIf ((aEn (as)).length ≤ aML j') (aRun xs L n j' 0 (aEnt (aML j') (as)) [] σ)) _ = _
  rw [e]
  exact h2 n (by omega)
theorem ev_callF {j' na p : Nat} {as : List Value} {v1 : Option Value} {σ1 : aSt} (ho : aPr xs L j pc = oCallF j' na p) (hd : st.drop na = .float 1 :: r) (ht : (st.take na).reverse = as) (hn : as.length = na) (hr : aCat r ≤ 8) (hl : (aEn (.float 1 :: as)).length ≤ aML j') (hc : Cal xs L j' (.float 1 :: as) σ v1 σ1) (h : Ev xs L j p ls (v1.toList ++ r) σ1 v σ') : Ev xs L j pc ls st σ v σ' := by
  obtain ⟨N1, h1⟩ := hc
  obtain ⟨N2, h2⟩ := h
  refine ev_one ho ⟨N1 + N2, fun n hn2 => ?_⟩
  show pF (st.drop na) _ = _
  rw [hd]
  refine ev_cif ⟨by rw [← List.length_reverse, ht, hn], rfl, hr⟩ ?_
  rw [ht]
  have e : cIf ((aEn (.float 1 :: as)).length ≤ aML j') (aRun xs L n j' 0 (aEnt (aML j') (.float 1 :: as)) [] σ) = some (v1, σ1) := ev_cif hl (h1 n (by omega))
  show aRet (cIf ((aEn (.float 1 :: as)).length ≤ aML j') (aRun xs L n j' 0 (aEnt (aML j') (.float 1 :: as)) [] σ)) _ = _
  rw [e]
  exact h2 n (by omega)
theorem ev_slen {p : Nat} (ho : aPr xs L j pc = oSlen L p) (h : Ev xs L j p ls (.int (Int32.ofNat L) :: r) σ v σ') : Ev xs L j pc ls (.float 0 :: r) σ v σ' := by
  obtain ⟨N, hN⟩ := h
  exact ev_one ho ⟨N, fun n hn => by show cIf ((0 : UInt32) = 0) _ = _; exact ev_cif rfl (hN n hn)⟩
theorem ev_sld {p : Nat} {i : Int32} (ho : aPr xs L j pc = oSld xs L p) (hi : ¬ (i < 0 ∨ L ≤ i.toNatClampNeg)) (h : Ev xs L j p ls (.int (xs i.toNatClampNeg) :: r) σ v σ') : Ev xs L j pc ls (.int i :: .float 0 :: r) σ v σ' := by
  obtain ⟨N, hN⟩ := h
  exact ev_one ho ⟨N, fun n hn => ev_cif ⟨rfl, hi⟩ (hN n hn)⟩
theorem ev_tval {p : Nat} (ho : aPr xs L j pc = oTval p) (h : Ev xs L j p ls (.float 2 :: r) σ v σ') : Ev xs L j pc ls (.float 1 :: r) σ v σ' := by
  obtain ⟨N, hN⟩ := h
  exact ev_one ho ⟨N, fun n hn => by show cIf ((1 : UInt32) = 1) _ = _; exact ev_cif rfl (hN n hn)⟩
theorem ev_tcod {p : Nat} (ho : aPr xs L j pc = oTcod p) (h : Ev xs L j p ls (.int 0 :: r) σ v σ') : Ev xs L j pc ls (.float 1 :: r) σ v σ' := by
  obtain ⟨N, hN⟩ := h
  exact ev_one ho ⟨N, fun n hn => by show cIf ((1 : UInt32) = 1) _ = _; exact ev_cif rfl (hN n hn)⟩
theorem ev_tlen {p n0 : Nat} (ho : aPr xs L j pc = oTlen n0 p) (h : Ev xs L j p ls (.int (Int32.ofNat n0) :: r) σ v σ') : Ev xs L j pc ls (.float 2 :: r) σ v σ' := by
  obtain ⟨N, hN⟩ := h
  exact ev_one ho ⟨N, fun n hn => by show cIf ((2 : UInt32) = 2) _ = _; exact ev_cif rfl (hN n hn)⟩
theorem ev_tld {p : Nat} {bs : List Int32} {i : Int32} (ho : aPr xs L j pc = oTld bs p) (hi : ¬ (i < 0 ∨ bs.length ≤ i.toNatClampNeg)) (h : Ev xs L j p ls (.int (bs.getD i.toNatClampNeg 0) :: r) σ v σ') : Ev xs L j pc ls (.int i :: .float 2 :: r) σ v σ' := by
  obtain ⟨N, hN⟩ := h
  exact ev_one ho ⟨N, fun n hn => ev_cif ⟨rfl, hi⟩ (hN n hn)⟩
end EV
