/-- what a method gives back, as the machine has it -/
def wI (x : Int32) : Option Value := some (.int x)
def wJ (x : Int64) : Option Value := some (.long x)
def wR (x : Nat) : Option Value := some (.ref x)
def wV (_ : Unit) : Option Value := none
theorem ev_a {A B C : Prop} (f : A → B) (h : A ∧ C) : B ∧ C := ⟨f h.1, h.2⟩
theorem ev_b {c : Prop} [Decidable c] {A B D C : Prop} (f : (c → A) → (¬ c → B) → D) (h1 : c → A ∧ C) (h2 : ¬ c → B ∧ C) : D ∧ C := by
  by_cases hc : c
  · exact ⟨f (fun _ => (h1 hc).1) (fun h => absurd hc h), (h1 hc).2⟩
  · exact ⟨f (fun h => absurd h hc) (fun _ => (h2 hc).1), (h2 hc).2⟩
