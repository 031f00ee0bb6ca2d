/-! ===== THE SMALL MACHINE: values, a store of cells by their numbers, one function a step ===== -/
/-- cells made, slots made, kind and length of each cell, ints, longs, references -/
abbrev aSt : Type := Nat × Nat × (Nat → Nat × Nat) × (Nat → Nat → Int32) × (Nat → Nat → Int64) × (Nat → Nat → Option Nat)
abbrev aR : Type := Option (Option Value × aSt)
abbrev aK : Type := Nat → List Value → List Value → aSt → aR
abbrev aC : Type := Nat → List Value → aSt → aR
abbrev aStp : Type := aC → aK → List Value → List Value → aSt → aR
def aU : Value := .double 0
def u2 {α : Type} (f : Nat → Nat → α) (a k : Nat) (v : α) : Nat → Nat → α := fun b j => if b = a then (if j = k then v else f b j) else f b j
def un {α : Type} (f : Nat → Nat → α) (a : Nat) (v : α) : Nat → Nat → α := fun b j => if b = a then v else f b j
abbrev aH (σ : aSt) : Nat → Nat × Nat := σ.2.2.1
abbrev aI (σ : aSt) : Nat → Nat → Int32 := σ.2.2.2.1
abbrev aJ (σ : aSt) : Nat → Nat → Int64 := σ.2.2.2.2.1
abbrev aP (σ : aSt) : Nat → Nat → Option Nat := σ.2.2.2.2.2
abbrev aWI (σ : aSt) (a k : Nat) (v : Int32) : aSt := (σ.1, σ.2.1, σ.2.2.1, u2 σ.2.2.2.1 a k v, σ.2.2.2.2.1, σ.2.2.2.2.2)
abbrev aWJ (σ : aSt) (a k : Nat) (v : Int64) : aSt := (σ.1, σ.2.1, σ.2.2.1, σ.2.2.2.1, u2 σ.2.2.2.2.1 a k v, σ.2.2.2.2.2)
abbrev aWP (σ : aSt) (a k : Nat) (v : Option Nat) : aSt := (σ.1, σ.2.1, σ.2.2.1, σ.2.2.2.1, σ.2.2.2.2.1, u2 σ.2.2.2.2.2 a k v)
abbrev aNew (σ : aSt) (kd n : Nat) : aSt := (σ.1 + 1, σ.2.1 + n, (fun b => if b = σ.1 then (kd, n) else σ.2.2.1 b), un σ.2.2.2.1 σ.1 0, un σ.2.2.2.2.1 σ.1 0, un σ.2.2.2.2.2 σ.1 none)
-- what is taken from a stack, a local, a condition
def pI (st : List Value) (f : Int32 → List Value → aR) : aR := match st with
  | .int x :: r => f x r
  | _ => none
def pJ (st : List Value) (f : Int64 → List Value → aR) : aR := match st with
  | .long x :: r => f x r
  | _ => none
def pR (st : List Value) (f : Nat → List Value → aR) : aR := match st with
  | .ref x :: r => f x r
  | _ => none
/-- any value of one slot -/
def pV (st : List Value) (f : Value → List Value → aR) : aR := match st with
  | .int x :: r => f (.int x) r
  | .ref x :: r => f (.ref x) r
  | .null :: r => f .null r
  | .float x :: r => f (.float x) r
  | _ => none
/-- a reference, or null, or a special cell -/
def pA (st : List Value) (f : Value → List Value → aR) : aR := match st with
  | .ref x :: r => f (.ref x) r
  | .null :: r => f .null r
  | .float x :: r => f (.float x) r
  | _ => none
def pF (st : List Value) (f : UInt32 → List Value → aR) : aR := match st with
  | .float x :: r => f x r
  | _ => none
def cIf (c : Prop) [Decidable c] (x : aR) : aR := if c then x else none
theorem pI_inv {st : List Value} {f : Int32 → List Value → aR} {q : Option Value × aSt} (h : pI st f = some q) : ∃ x r, st = .int x :: r ∧ f x r = some q := by
  unfold pI at h
  split at h
  · exact ⟨_, _, rfl, h⟩
  · cases h
theorem pJ_inv {st : List Value} {f : Int64 → List Value → aR} {q : Option Value × aSt} (h : pJ st f = some q) : ∃ x r, st = .long x :: r ∧ f x r = some q := by
  unfold pJ at h
  split at h
  · exact ⟨_, _, rfl, h⟩
  · cases h
theorem pR_inv {st : List Value} {f : Nat → List Value → aR} {q : Option Value × aSt} (h : pR st f = some q) : ∃ x r, st = .ref x :: r ∧ f x r = some q := by
  unfold pR at h
  split at h
  · exact ⟨_, _, rfl, h⟩
  · cases h
theorem pF_inv {st : List Value} {f : UInt32 → List Value → aR} {q : Option Value × aSt} (h : pF st f = some q) : ∃ x r, st = .float x :: r ∧ f x r = some q := by
  unfold pF at h
  split at h
  · exact ⟨_, _, rfl, h⟩
  · cases h
theorem pV_inv {st : List Value} {f : Value → List Value → aR} {q : Option Value × aSt} (h : pV st f = some q) : ∃ x r, st = x :: r ∧ f x r = some q ∧ ((∃ y, x = .int y) ∨ (∃ y, x = .ref y) ∨ x = .null ∨ ∃ y, x = .float y) := by
  unfold pV at h
  split at h
  · exact ⟨_, _, rfl, h, Or.inl ⟨_, rfl⟩⟩
  · exact ⟨_, _, rfl, h, Or.inr (Or.inl ⟨_, rfl⟩)⟩
  · exact ⟨_, _, rfl, h, Or.inr (Or.inr (Or.inl rfl))⟩
  · exact ⟨_, _, rfl, h, Or.inr (Or.inr (Or.inr ⟨_, rfl⟩))⟩
  · cases h
theorem pA_inv {st : List Value} {f : Value → List Value → aR} {q : Option Value × aSt} (h : pA st f = some q) : ∃ x r, st = x :: r ∧ f x r = some q ∧ ((∃ y, x = .ref y) ∨ x = .null ∨ ∃ y, x = .float y) := by
  unfold pA at h
  split at h
  · exact ⟨_, _, rfl, h, Or.inl ⟨_, rfl⟩⟩
  · exact ⟨_, _, rfl, h, Or.inr (Or.inl rfl)⟩
  · exact ⟨_, _, rfl, h, Or.inr (Or.inr ⟨_, rfl⟩)⟩
  · cases h
theorem cIf_inv {c : Prop} [Decidable c] {x : aR} {q : Option Value × aSt} (h : cIf c x = some q) : c ∧ x = some q := by
  unfold cIf at h
  split at h
  · exact ⟨by assumption, h⟩
  · cases h
/-- a local is taken -/
def gL (ls : List Value) (i : Nat) : List Value := match ls[i]? with
  | some v => [v]
  | none => []
theorem gL_inv {ls : List Value} {i : Nat} {v : Value} {r : List Value} (h : gL ls i = v :: r) : ls[i]? = some v ∧ r = [] := by
  unfold gL at h
  split at h
  · next w hw => cases h; exact ⟨hw, rfl⟩
  · cases h
/-- a long loses its first half -/
def aKl (v : Value) : Value := match v with
  | .long _ => aU
  | .int x => .int x
  | .ref x => .ref x
  | .null => .null
  | .float x => .float x
  | v => v
/-- a value of one slot is put into a local -/
def aS1 : List Value → Nat → Value → List Value
  | [], _, _ => []
  | _ :: r, 0, v => v :: r
  | x :: r, 1, v => aKl x :: aS1 r 0 v
  | x :: r, i + 2, v => x :: aS1 r (i + 1) v
def aS2 : List Value → Nat → Value → List Value
  | [], _, _ => []
  | _ :: [], 0, v => [v]
  | _ :: _ :: r, 0, v => v :: aU :: r
  | x :: r, 1, v => aKl x :: aS2 r 0 v
  | x :: r, i + 2, v => x :: aS2 r (i + 1) v
/-- the locals at a method's entry -/
def aEn : List Value → List Value
  | [] => []
  | .long x :: r => .long x :: aU :: aEn r
  | .double _ :: r => aU :: aU :: aEn r
  | .int x :: r => .int x :: aEn r
  | .ref x :: r => .ref x :: aEn r
  | .null :: r => .null :: aEn r
  | v :: r => v :: aEn r
def aEnt (n : Nat) (as : List Value) : List Value := aEn as ++ List.replicate (n - (aEn as).length) aU
-- the steps
def oPush (v : Value) (p : Nat) : aStp := fun _ k ls st σ => k p ls (v :: st) σ
def oIload (i p : Nat) : aStp := fun _ k ls st σ => pI (gL ls i) fun x _ => k p ls (.int x :: st) σ
def oLload (i p : Nat) : aStp := fun _ k ls st σ => pJ (gL ls i) fun x _ => k p ls (.long x :: st) σ
def oAload (i p : Nat) : aStp := fun _ k ls st σ => pA (gL ls i) fun x _ => k p ls (x :: st) σ
def oIstore (i p : Nat) : aStp := fun _ k ls st σ => pI st fun x r => cIf (i < ls.length) (k p (aS1 ls i (.int x)) r σ)
def oLstore (i p : Nat) : aStp := fun _ k ls st σ => pJ st fun x r => cIf (i + 1 < ls.length) (k p (aS2 ls i (.long x)) r σ)
def oAstore (i p : Nat) : aStp := fun _ k ls st σ => pR st fun x r => cIf (i < ls.length) (k p (aS1 ls i (.ref x)) r σ)
def oIinc (i : Nat) (n : Int32) (p : Nat) : aStp := fun _ k ls st σ => pI (gL ls i) fun x _ => cIf (i < ls.length) (k p (aS1 ls i (.int (x + n))) st σ)
def oBin (f : Int32 → Int32 → Int32) (p : Nat) : aStp := fun _ k ls st σ => pI st fun y r => pI r fun x r => k p ls (.int (f x y) :: r) σ
def oDiv (p : Nat) : aStp := fun _ k ls st σ => pI st fun y r => pI r fun x r => cIf (¬ y = 0) (k p ls (.int (x / y) :: r) σ)
def oUn (f : Int32 → Int32) (p : Nat) : aStp := fun _ k ls st σ => pI st fun x r => k p ls (.int (f x) :: r) σ
def oI2l (p : Nat) : aStp := fun _ k ls st σ => pI st fun x r => k p ls (.long x.toInt64 :: r) σ
def oBinL (f : Int64 → Int64 → Int64) (p : Nat) : aStp := fun _ k ls st σ => pJ st fun y r => pJ r fun x r => k p ls (.long (f x y) :: r) σ
def oLcmp (p : Nat) : aStp := fun _ k ls st σ => pJ st fun y r => pJ r fun x r => k p ls (.int (lg_cmp x y) :: r) σ
def oDup (p : Nat) : aStp := fun _ k ls st σ => pV st fun x r => k p ls (x :: x :: r) σ
def oDup2 (p : Nat) : aStp := fun _ k ls st σ => pV st fun x r => pV r fun y r => k p ls (x :: y :: x :: y :: r) σ
def oPop (p : Nat) : aStp := fun _ k ls st σ => pV st fun _ r => k p ls r σ
def oGoto (p : Nat) : aStp := fun _ k ls st σ => k p ls st σ
def oIfeq (t p : Nat) : aStp := fun _ k ls st σ => pI st fun x r => if x = 0 then k t ls r σ else k p ls r σ
def oIfne (t p : Nat) : aStp := fun _ k ls st σ => pI st fun x r => if x ≠ 0 then k t ls r σ else k p ls r σ
def oIflt (t p : Nat) : aStp := fun _ k ls st σ => pI st fun x r => if x < 0 then k t ls r σ else k p ls r σ
def oIfge (t p : Nat) : aStp := fun _ k ls st σ => pI st fun x r => if 0 ≤ x then k t ls r σ else k p ls r σ
def oIfgt (t p : Nat) : aStp := fun _ k ls st σ => pI st fun x r => if 0 < x then k t ls r σ else k p ls r σ
def oIfle (t p : Nat) : aStp := fun _ k ls st σ => pI st fun x r => if x ≤ 0 then k t ls r σ else k p ls r σ
def oCeq (t p : Nat) : aStp := fun _ k ls st σ => pI st fun y r => pI r fun x r => if x = y then k t ls r σ else k p ls r σ
def oCne (t p : Nat) : aStp := fun _ k ls st σ => pI st fun y r => pI r fun x r => if x ≠ y then k t ls r σ else k p ls r σ
def oClt (t p : Nat) : aStp := fun _ k ls st σ => pI st fun y r => pI r fun x r => if x < y then k t ls r σ else k p ls r σ
def oCge (t p : Nat) : aStp := fun _ k ls st σ => pI st fun y r => pI r fun x r => if y ≤ x then k t ls r σ else k p ls r σ
def oCgt (t p : Nat) : aStp := fun _ k ls st σ => pI st fun y r => pI r fun x r => if y < x then k t ls r σ else k p ls r σ
def oCle (t p : Nat) : aStp := fun _ k ls st σ => pI st fun y r => pI r fun x r => if x ≤ y then k t ls r σ else k p ls r σ
def oTab (lo hi : Int) (ts : List Nat) (d : Nat) : aStp := fun _ k ls st σ => pI st fun x r => if x.toInt < lo ∨ hi < x.toInt then k d ls r σ else (match ts[(x.toInt - lo).toNat]? with
  | some t => k t ls r σ
  | none => none)
def oLook (pc : Nat) (ps : List (Int × Int)) (d : Int) : aStp := fun _ k ls st σ => pI st fun x r => k ((pc : Int) + Op.lookupswitch.offset ps d x.toInt).toNat ls r σ
def oGetI (ci f p : Nat) : aStp := fun _ k ls st σ => pR st fun a r => cIf (a < σ.1 ∧ (aH σ a).1 = ci) (k p ls (.int (aI σ a f) :: r) σ)
def oGetR (ci f p : Nat) : aStp := fun _ k ls st σ => pR st fun a r => cIf (a < σ.1 ∧ (aH σ a).1 = ci) (match aP σ a f with
  | some b => k p ls (.ref b :: r) σ
  | none => k p ls (.null :: r) σ)
def oPutI (ci f p : Nat) : aStp := fun _ k ls st σ => pI st fun v r => pR r fun a r => cIf (a < σ.1 ∧ (aH σ a).1 = ci) (k p ls r (aWI σ a f v))
def oPutZ (ci f p : Nat) : aStp := fun _ k ls st σ => pI st fun v r => pR r fun a r => cIf (a < σ.1 ∧ (aH σ a).1 = ci ∧ (v = 0 ∨ v = 1)) (k p ls r (aWI σ a f v))
def oPutR (ci f p : Nat) : aStp := fun _ k ls st σ => pR st fun v r => pR r fun a r => cIf (a < σ.1 ∧ (aH σ a).1 = ci) (k p ls r (aWP σ a f (some v)))
def oAldI (kd p : Nat) : aStp := fun _ k ls st σ => pI st fun i r => pR r fun a r => cIf (a < σ.1 ∧ (aH σ a).1 = kd ∧ ¬ (i < 0 ∨ (aH σ a).2 ≤ i.toNatClampNeg)) (k p ls (.int (aI σ a i.toNatClampNeg) :: r) σ)
def oAldJ (p : Nat) : aStp := fun _ k ls st σ => pI st fun i r => pR r fun a r => cIf (a < σ.1 ∧ (aH σ a).1 = 16 ∧ ¬ (i < 0 ∨ (aH σ a).2 ≤ i.toNatClampNeg)) (k p ls (.long (aJ σ a i.toNatClampNeg) :: r) σ)
def oAldR (p : Nat) : aStp := fun _ k ls st σ => pI st fun i r => pR r fun a r => cIf (a < σ.1 ∧ 17 < (aH σ a).1 ∧ (aH σ a).1 < 25 ∧ ¬ (i < 0 ∨ (aH σ a).2 ≤ i.toNatClampNeg)) (match aP σ a i.toNatClampNeg with
  | some b => k p ls (.ref b :: r) σ
  | none => k p ls (.null :: r) σ)
def oAstI (kd : Nat) (f : Int32 → Int32) (p : Nat) : aStp := fun _ k ls st σ => pI st fun x r => pI r fun i r => pR r fun a r => cIf (a < σ.1 ∧ (aH σ a).1 = kd ∧ ¬ (i < 0 ∨ (aH σ a).2 ≤ i.toNatClampNeg)) (k p ls r (aWI σ a i.toNatClampNeg (f x)))
def oAstJ (p : Nat) : aStp := fun _ k ls st σ => pJ st fun x r => pI r fun i r => pR r fun a r => cIf (a < σ.1 ∧ (aH σ a).1 = 16 ∧ ¬ (i < 0 ∨ (aH σ a).2 ≤ i.toNatClampNeg)) (k p ls r (aWJ σ a i.toNatClampNeg x))
def oAstR (kd ci p : Nat) : aStp := fun _ k ls st σ => pR st fun v r => pI r fun i r => pR r fun a r => cIf (a < σ.1 ∧ (aH σ a).1 = kd ∧ ¬ (i < 0 ∨ (aH σ a).2 ≤ i.toNatClampNeg) ∧ v < σ.1 ∧ (aH σ v).1 = ci) (k p ls r (aWP σ a i.toNatClampNeg (some v)))
def oLen (p : Nat) : aStp := fun _ k ls st σ => pR st fun a r => cIf (a < σ.1 ∧ 12 < (aH σ a).1 ∧ (aH σ a).1 < 25) (k p ls (.int (Int32.ofNat (aH σ a).2) :: r) σ)
def oNewO (ci n p : Nat) : aStp := fun _ k ls st σ => k p ls (.ref σ.1 :: st) (aNew σ ci n)
def oNewA (kd p : Nat) : aStp := fun _ k ls st σ => pI st fun n r => cIf (¬ n < 0 ∧ n.toNatClampNeg ≤ 60000000) (k p ls (.ref σ.1 :: r) (aNew σ kd n.toNatClampNeg))
/-- an array of n rows of m ints -/
abbrev aMul (σ : aSt) (n m : Nat) : aSt := (σ.1 + 1 + n, σ.2.1 + n + n * m, (fun b => if b < σ.1 then σ.2.2.1 b else if b = σ.1 then (24, n) else (15, m)), (fun b j => if b < σ.1 then σ.2.2.2.1 b j else 0), (fun b j => if b < σ.1 then σ.2.2.2.2.1 b j else 0), (fun b j => if b < σ.1 then σ.2.2.2.2.2 b j else if b = σ.1 ∧ j < n then some (σ.1 + 1 + j) else none))
def oMul (p : Nat) : aStp := fun _ k ls st σ => pI st fun m r => pI r fun n r => cIf (¬ n < 0 ∧ ¬ m < 0 ∧ n.toNatClampNeg ≤ 60000000 ∧ m.toNatClampNeg ≤ 60000000) (k p ls (.ref σ.1 :: r) (aMul σ n.toNatClampNeg m.toNatClampNeg))
def aCat (st : List Value) : Nat := (st.map fun v => v.category).sum
def aRet (x : aR) (f : Option Value → aSt → aR) : aR := match x with
  | some (v, σ) => f v σ
  | none => none
theorem aRet_inv {x : aR} {f : Option Value → aSt → aR} {q : Option Value × aSt} (h : aRet x f = some q) : ∃ v σ, x = some (v, σ) ∧ f v σ = some q := by
  unfold aRet at h
  split at h
  · exact ⟨_, _, rfl, h⟩
  · cases h
def oCallV (j na ci p : Nat) : aStp := fun call k ls st σ => pR (st.drop na) fun b r => cIf ((st.take na).length = na ∧ b < σ.1 ∧ (aH σ b).1 = ci ∧ aCat r ≤ 8) (aRet (call j (.ref b :: (st.take na).reverse) σ) fun v σ => k p ls (v.toList ++ r) σ)
def oCallI (j na p : Nat) : aStp := fun call k ls st σ => pR (st.drop na) fun b r => cIf ((st.take na).length = na ∧ aCat r ≤ 8) (aRet (call j (.ref b :: (st.take na).reverse) σ) fun v σ => k p ls (v.toList ++ r) σ)
def oCallS (j na p : Nat) : aStp := fun call k ls st σ => cIf ((st.take na).length = na ∧ aCat (st.drop na) ≤ 8) (aRet (call j (st.take na).reverse σ) fun v σ => k p ls (v.toList ++ st.drop na) σ)
/-- a call on a constant text -/
def oCallF (j na p : Nat) : aStp := fun call k ls st σ => pF (st.drop na) fun b r => cIf ((st.take na).length = na ∧ b = 1 ∧ aCat r ≤ 8) (aRet (call j (.float b :: (st.take na).reverse) σ) fun v σ => k p ls (v.toList ++ r) σ)
def oObj (p : Nat) : aStp := fun _ k ls st σ => pR st fun _ r => cIf (aCat r ≤ 8) (k p ls r σ)
def oRetI : aStp := fun _ _ _ st σ => pI st fun x r => cIf (r = []) (some (some (.int x), σ))
def oRetZ (f : Int32 → Int32) : aStp := fun _ _ _ st σ => pI st fun x r => cIf (r = [] ∧ f x = x) (some (some (.int x), σ))
def oRetL : aStp := fun _ _ _ st σ => pJ st fun x r => cIf (r = []) (some (some (.long x), σ))
def oRetA : aStp := fun _ _ _ st σ => pR st fun x r => cIf (r = []) (some (some (.ref x), σ))
def oRetV : aStp := fun _ _ _ st σ => cIf (st = []) (some (none, σ))
def oNo : aStp := fun _ _ _ _ _ => none
-- the script: its length, its ints
def oSlen (L p : Nat) : aStp := fun _ k ls st σ => pF st fun a r => cIf (a = 0) (k p ls (.int (Int32.ofNat L) :: r) σ)
def oSld (xs : Nat → Int32) (L p : Nat) : aStp := fun _ k ls st σ => pI st fun i r => pF r fun a r => cIf (a = 0 ∧ ¬ (i < 0 ∨ L ≤ i.toNatClampNeg)) (k p ls (.int (xs i.toNatClampNeg) :: r) σ)
-- a constant text: its bytes, its coder
def oTval (p : Nat) : aStp := fun _ k ls st σ => pF st fun a r => cIf (a = 1) (k p ls (.float 2 :: r) σ)
def oTcod (p : Nat) : aStp := fun _ k ls st σ => pF st fun a r => cIf (a = 1) (k p ls (.int 0 :: r) σ)
def oTlen (n p : Nat) : aStp := fun _ k ls st σ => pF st fun a r => cIf (a = 2) (k p ls (.int (Int32.ofNat n) :: r) σ)
def oTld (bs : List Int32) (p : Nat) : aStp := fun _ k ls st σ => pI st fun i r => pF r fun a r => cIf (a = 2 ∧ ¬ (i < 0 ∨ bs.length ≤ i.toNatClampNeg)) (k p ls (.int (bs.getD i.toNatClampNeg 0) :: r) σ)
/-- the machine: n steps at most -/
def aEx (P : Nat → Nat → aStp) (ml : Nat → Nat) : Nat → Nat → Nat → List Value → List Value → aSt → aR
  | 0, _, _, _, _, _ => none
  | n + 1, j, pc, ls, st, σ => P j pc (fun j' as σ' => cIf ((aEn as).length ≤ ml j') (aEx P ml n j' 0 (aEnt (ml j') as) [] σ')) (fun pc' ls' st' σ' => aEx P ml n j pc' ls' st' σ') ls st σ
