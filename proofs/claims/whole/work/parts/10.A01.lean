/-! ===== THE MATHEMATICS: results, planes, numbers ===== -/
def Ok {α : Type} (m : Option (α × aSt)) (Q : α → aSt → Prop) : Prop := ∃ a σ, m = some (a, σ) ∧ Q a σ
theorem ok_some {α : Type} {Q : α → aSt → Prop} {a : α} {σ : aSt} (h : Q a σ) : Ok (some (a, σ)) Q := ⟨a, σ, rfl, h⟩
theorem ok_lt {α β : Type} {x : β} {f : β → Option (α × aSt)} {Q : α → aSt → Prop} (h : Ok (f x) Q) : Ok (lt x f) Q := h
theorem ok_cO {α : Type} {c : Prop} [Decidable c] {x : Option (α × aSt)} {Q : α → aSt → Prop} (hc : c) (h : Ok x Q) : Ok (cO c x) Q := by
  unfold cO
  rw [if_pos hc]
  exact h
theorem ok_oB {α β : Type} {x : Option (α × aSt)} {f : α → aSt → Option (β × aSt)} {Q : β → aSt → Prop} (h : Ok x (fun a σ => Ok (f a σ) Q)) : Ok (oB x f) Q := by
  obtain ⟨a, σ, rfl, h2⟩ := h
  exact h2
theorem ok_mono {α : Type} {m : Option (α × aSt)} {Q Q' : α → aSt → Prop} (h : Ok m Q) (hq : ∀ a σ, Q a σ → Q' a σ) : Ok m Q' := by
  obtain ⟨a, σ, h1, h2⟩ := h
  exact ⟨a, σ, h1, hq a σ h2⟩
theorem ok_bind {α β : Type} {x : Option (α × aSt)} {f : α → aSt → Option (β × aSt)} {P : α → aSt → Prop} {Q : β → aSt → Prop} (h : Ok x P) (h2 : ∀ a σ, P a σ → Ok (f a σ) Q) : Ok (oB x f) Q := ok_oB (ok_mono h h2)
theorem ok_if {α : Type} {c : Prop} [Decidable c] {x y : Option (α × aSt)} {Q : α → aSt → Prop} (h1 : c → Ok x Q) (h2 : ¬ c → Ok y Q) : Ok (if c then x else y) Q := by
  by_cases h : c
  · rw [if_pos h]; exact h1 h
  · rw [if_neg h]; exact h2 h
theorem ok_ip {α : Type} {c : Prop} [Decidable c] {x y : Option (α × aSt)} {Q : α → aSt → Prop} (hc : c) (h : Ok x Q) : Ok (if c then x else y) Q := by rw [if_pos hc]; exact h
theorem ok_in {α : Type} {c : Prop} [Decidable c] {x y : Option (α × aSt)} {Q : α → aSt → Prop} (hc : ¬ c) (h : Ok y Q) : Ok (if c then x else y) Q := by rw [if_neg hc]; exact h
theorem ok_eq {α : Type} {m m' : Option (α × aSt)} {Q : α → aSt → Prop} (e : m = m') (h : Ok m' Q) : Ok m Q := e ▸ h
theorem ok_conj {α : Type} {m : Option (α × aSt)} {P Q : α → aSt → Prop} (h1 : Ok m P) (h2 : Ok m Q) : Ok m (fun a σ => P a σ ∧ Q a σ) := by
  obtain ⟨a, σ, e, h⟩ := h1
  obtain ⟨a', σ', e', h'⟩ := h2
  rw [e] at e'
  cases e'
  exact ⟨a, σ, e, h, h'⟩
theorem oB_s {α β : Type} {a : α} {σ : aSt} {f : α → aSt → Option β} : oB (some (a, σ)) f = f a σ := rfl
theorem lt_d {α β : Type} {x : α} {f : α → β} : lt x f = f x := rfl
theorem cO_t {β : Type} {c : Prop} [Decidable c] {x : Option β} (h : c) : cO c x = x := if_pos h
/-- a store with another plane of ints -/
def mk (σ : aSt) (f : Nat → Nat → Int32) : aSt := (σ.1, σ.2.1, σ.2.2.1, f, σ.2.2.2.2.1, σ.2.2.2.2.2)
theorem mk_I (σ : aSt) (f : Nat → Nat → Int32) : aI (mk σ f) = f := rfl
theorem mk_J (σ : aSt) (f : Nat → Nat → Int32) : aJ (mk σ f) = aJ σ := rfl
theorem mk_P (σ : aSt) (f : Nat → Nat → Int32) : aP (mk σ f) = aP σ := rfl
theorem mk_T (σ : aSt) (f : Nat → Nat → Int32) (a k : Nat) : aTxt (mk σ f) a k = aTxt σ a k := rfl
theorem mk_W (σ : aSt) (f : Nat → Nat → Int32) (a k : Nat) (v : Int32) : aWI (mk σ f) a k v = mk σ (u2 f a k v) := rfl
theorem mk_mk (σ : aSt) (f g : Nat → Nat → Int32) : mk (mk σ f) g = mk σ g := rfl
theorem mk_id (σ : aSt) : mk σ (aI σ) = σ := rfl
theorem W_mk (σ : aSt) (a k : Nat) (v : Int32) : aWI σ a k v = mk σ (u2 (aI σ) a k v) := rfl
theorem u2_self {α : Type} {f : Nat → Nat → α} {a k : Nat} {v : α} : u2 f a k v a k = v := by unfold u2; rw [if_pos rfl, if_pos rfl]
theorem u2_n {α : Type} {f : Nat → Nat → α} {a k b j : Nat} {v : α} (h : b ≠ a ∨ j ≠ k) : u2 f a k v b j = f b j := by
  unfold u2
  split
  · split
    · next e1 e2 => rcases h with h | h <;> contradiction
    · rfl
  · rfl
theorem u2_at {α : Type} {f : Nat → Nat → α} {a k b j : Nat} {v : α} (h : b = a ∧ j = k) : u2 f a k v b j = v := by rw [h.1, h.2]; exact u2_self
-- numbers
def n32 (i : Nat) : Int32 := Int32.ofNat i
def m1 : Int32 := -1
theorem n32_of (k : Nat) : (OfNat.ofNat k : Int32) = n32 (OfNat.ofNat k) := rfl
theorem ofNat_n32 (k : Nat) : Int32.ofNat k = n32 k := rfl
theorem neg_n32_1 : -(n32 1) = m1 := rfl
theorem n32_toInt {i : Nat} (h : i < 2147483648) : (n32 i).toInt = i := by
  unfold n32
  rw [Int32.toInt_ofNat', show Int32.size = 4294967296 from rfl]
  rw [Int.bmod_eq_of_le] <;> omega
theorem m1_toInt : m1.toInt = -1 := rfl
theorem n32_nat {i : Nat} (h : i < 2147483648) : (n32 i).toNatClampNeg = i := by
  show (n32 i).toInt.toNat = i
  rw [n32_toInt h]
  rfl
theorem n32_lt {i j : Nat} (h1 : i < 2147483648) (h2 : j < 2147483648) : (n32 i < n32 j) = (i < j) := by
  rw [Int32.lt_iff_toInt_lt, n32_toInt h1, n32_toInt h2]
  simp
theorem n32_le {i j : Nat} (h1 : i < 2147483648) (h2 : j < 2147483648) : (n32 i ≤ n32 j) = (i ≤ j) := by
  rw [Int32.le_iff_toInt_le, n32_toInt h1, n32_toInt h2]
  simp
theorem n32_eq {i j : Nat} (h1 : i < 2147483648) (h2 : j < 2147483648) : (n32 i = n32 j) = (i = j) := by
  rw [← Int32.toInt_inj, n32_toInt h1, n32_toInt h2]
  exact propext Int.ofNat_inj
theorem n32_add (i j : Nat) : n32 i + n32 j = n32 (i + j) := by
  unfold n32
  exact (Int32.ofNat_add i j).symm
theorem n32_mul (i j : Nat) : n32 i * n32 j = n32 (i * j) := by
  unfold n32
  exact (Int32.ofNat_mul i j).symm
theorem n32_sub {i j : Nat} (h : j ≤ i) : n32 i - n32 j = n32 (i - j) := by
  have e : n32 (i - j) + n32 j = n32 i := by rw [n32_add, Nat.sub_add_cancel h]
  rw [← e, Int32.add_sub_cancel]
theorem n32_addm1 {i : Nat} (h : 1 ≤ i) : n32 i + m1 = n32 (i - 1) := by
  have : n32 i + m1 = n32 i - n32 1 := by unfold m1; rw [Int32.sub_eq_add_neg]; rfl
  rw [this, n32_sub h]
theorem n32_m1 {i : Nat} (h : i < 2147483648) : (n32 i = m1) = False := by
  apply propext
  constructor
  · intro e
    have := congrArg Int32.toInt e
    rw [n32_toInt h, m1_toInt] at this
    omega
  · intro f
    exact f.elim
theorem m1_n32 {i : Nat} (h : i < 2147483648) : (m1 = n32 i) = False := by rw [← n32_m1 h]; exact propext ⟨Eq.symm, Eq.symm⟩
theorem m1_lt {i : Nat} (h : i < 2147483648) : (m1 < n32 i) = True := by
  rw [Int32.lt_iff_toInt_lt, n32_toInt h, m1_toInt]
  exact propext ⟨fun _ => trivial, fun _ => by omega⟩
theorem m1_le {i : Nat} (h : i < 2147483648) : (m1 ≤ n32 i) = True := by
  rw [Int32.le_iff_toInt_le, n32_toInt h, m1_toInt]
  exact propext ⟨fun _ => trivial, fun _ => by omega⟩
theorem lt_m1 {i : Nat} (h : i < 2147483648) : (n32 i < m1) = False := by
  rw [Int32.lt_iff_toInt_lt, n32_toInt h, m1_toInt]
  exact propext ⟨fun q => by omega, False.elim⟩
theorem le_m1 {i : Nat} (h : i < 2147483648) : (n32 i ≤ m1) = False := by
  rw [Int32.le_iff_toInt_le, n32_toInt h, m1_toInt]
  exact propext ⟨fun q => by omega, False.elim⟩
theorem m1_add1 : m1 + n32 1 = n32 0 := by decide
theorem m1_lt0 : m1 < 0 := by decide
/-- an int is a number below a bound -/
theorem n32_ex {x : Int32} {b : Nat} (h0 : ¬ x < 0) (h1 : x.toInt < b) : ∃ i, i < b ∧ x = n32 i := by
  rw [Int32.lt_iff_toInt_lt] at h0
  have h0' : ¬ x.toInt < 0 := h0
  have hx := Int32.toInt_lt x
  refine ⟨x.toInt.toNat, by omega, ?_⟩
  rw [← Int32.toInt_inj, n32_toInt (by omega)]
  omega
theorem nar_b0 : vp_nar .boolean 0 = 0 := by decide
theorem nar_b1 : vp_nar .boolean 1 = 1 := by decide
theorem ok_W {α : Type} {σ : aSt} {f : Nat → Nat → Int32} {a k : Nat} {v : Int32} {g : aSt → Option (α × aSt)} {Q : α → aSt → Prop} (h : Ok (g (mk σ (u2 f a k v))) Q) : Ok (lt (aWI (mk σ f) a k v) g) Q := h
theorem n32_div {i j : Nat} (h1 : i < 2147483648) (h2 : j < 2147483648) : n32 i / n32 j = n32 (i / j) := by
  have hq : i / j ≤ i := Nat.div_le_self i j
  have e : (i : Int).tdiv (j : Int) = ((i / j : Nat) : Int) := by
    rw [Int.tdiv_eq_ediv_of_nonneg (by omega)]
    rfl
  rw [← Int32.toInt_inj, Int32.toInt_div, n32_toInt h1, n32_toInt h2, n32_toInt (by omega), e]
  generalize i / j = q at hq
  rw [Int.bmod_eq_of_le] <;> omega
