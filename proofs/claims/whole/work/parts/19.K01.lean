/-! ===== the parser without a store: stacks, code of one E ===== -/
def rkx (t : Nat) : Nat := if t = 5 then 2 else if t = 17 then 4 else if t = 18 then 4 else if t = 19 then 5 else if t = 20 then 3 else if t = 21 then 3 else if t = 22 then 3 else if t = 23 then 3 else if t = 24 then 0 else 1
def ppA (r : Nat) : List Nat → List Nat
  | [] => []
  | x :: ws => if r ≤ rkx x then x :: ppA r ws else []
def ppB (r : Nat) : List Nat → List Nat
  | [] => []
  | x :: ws => if r ≤ rkx x then ppB r ws else x :: ws
def opn : List Nat → Nat
  | [] => 0
  | x :: ws => if x = 24 then opn ws + 1 else opn ws
def nop : List Nat → Nat
  | [] => 0
  | x :: ws => if x = 24 then nop ws else nop ws + 1
def hd (ws : List Nat) : Nat := match ws with
  | [] => 0
  | x :: _ => if x = 19 then 2 else if x = 24 then 0 else 1
def shp : List Nat → Prop
  | [] => True
  | x :: ws => shp ws ∧ (x = 24 ∨ ((x = 17 ∨ x = 18) ∧ hd ws = 0) ∨ (x = 19 ∧ hd ws ≤ 1))
theorem hd_le (ws : List Nat) : hd ws ≤ 2 := by
  unfold hd
  repeat' split
  all_goals omega
theorem shp_len : ∀ ws, shp ws → ws.length ≤ 3 * opn ws + hd ws := by
  intro ws
  induction ws with
  | nil => intro _; exact Nat.zero_le _
  | cons x ws ih =>
    intro h
    have a := ih h.1
    have b := hd_le ws
    rw [List.length_cons, opn]
    rcases h.2 with rfl | ⟨hx, h0⟩ | ⟨rfl, h1⟩
    · rw [if_pos rfl]
      omega
    · rw [if_neg (by omega)]
      have : hd (x :: ws) = 1 := by
        show (if x = 19 then 2 else if x = 24 then 0 else 1) = 1
        rw [if_neg (by omega), if_neg (by omega)]
      omega
    · rw [if_neg (by omega)]
      have : hd (19 :: ws) = 2 := rfl
      omega
theorem nop_opn : ∀ ws, nop ws + opn ws = ws.length := by
  intro ws
  induction ws with
  | nil => rfl
  | cons x ws ih =>
    rw [nop, opn, List.length_cons]
    split <;> omega
theorem shp_mem : ∀ ws, shp ws → ∀ x ∈ ws, x = 17 ∨ x = 18 ∨ x = 19 ∨ x = 24 := by
  intro ws
  induction ws with
  | nil => intro _ x hx; cases hx
  | cons y ws ih =>
    intro h x hx
    rcases List.mem_cons.mp hx with e | e
    · rcases h.2 with q | ⟨q, _⟩ | ⟨q, _⟩ <;> omega
    · exact ih h.1 x e
theorem pp_len (r : Nat) : ∀ ws, (ppA r ws).length + (ppB r ws).length = ws.length := by
  intro ws
  induction ws with
  | nil => rfl
  | cons x ws ih =>
    rw [ppA, ppB]
    split
    · simp only [List.length_cons]; omega
    · simp
theorem rk_op {x : Nat} (h : x = 17 ∨ x = 18 ∨ x = 19 ∨ x = 24) : rkx x = (if x = 24 then 0 else if x = 19 then 5 else 4) := by
  rcases h with rfl | rfl | rfl | rfl <;> rfl
theorem pp_shp {r : Nat} (hr : 1 ≤ r) : ∀ ws, shp ws → shp (ppB r ws) ∧ opn (ppB r ws) = opn ws ∧ (r ≤ 5 → hd (ppB r ws) ≤ 1) ∧ (r ≤ 4 → hd (ppB r ws) = 0) ∧ nop (ppB r ws) + (ppA r ws).length = nop ws ∧ (∀ x ∈ ppA r ws, x = 17 ∨ x = 18 ∨ x = 19) ∧ (r ≤ 4 → ppB r ws = [] ∨ ∃ s, ppB r ws = 24 :: s) := by
  intro ws
  induction ws with
  | nil => intro _; exact ⟨trivial, rfl, fun _ => Nat.zero_le _, fun _ => rfl, rfl, fun x hx => (by cases hx), fun _ => Or.inl rfl⟩
  | cons x ws ih =>
    intro h
    have hx := shp_mem _ h x List.mem_cons_self
    have hk := rk_op hx
    obtain ⟨i1, i2, i3, i4, i5, i6, i7⟩ := ih h.1
    rw [ppA, ppB]
    by_cases hc : r ≤ rkx x
    · have n24 : x ≠ 24 := by intro e; rw [if_pos e] at hk; omega
      rw [if_pos hc, if_pos hc]
      refine ⟨i1, ?_, i3, i4, ?_, fun y hy => ?_, i7⟩
      · rw [opn, if_neg n24]; exact i2
      · rw [nop, if_neg n24, List.length_cons]; omega
      · rcases List.mem_cons.mp hy with e | e
        · omega
        · exact i6 y e
    · rw [if_neg hc, if_neg hc]
      refine ⟨h, rfl, fun h5 => ?_, fun h4 => ?_, rfl, fun y hy => (by cases hy), fun h4 => ?_⟩
      · show (if x = 19 then 2 else if x = 24 then 0 else 1) ≤ 1
        by_cases e : x = 19
        · subst e
          exact absurd (show r ≤ 5 from h5) hc
        · rw [if_neg e]; split <;> omega
      · have e : x = 24 := by
          by_cases e : x = 24
          · exact e
          · rw [if_neg e] at hk
            split at hk <;> omega
        subst e
        rfl
      · have e : x = 24 := by
          by_cases e : x = 24
          · exact e
          · rw [if_neg e] at hk
            split at hk <;> omega
        subst e
        exact Or.inr ⟨ws, rfl⟩
/-- all of it, where no ( is in it -/
theorem pp_all {r : Nat} (h4 : r ≤ 4) : ∀ ws, shp ws → opn ws = 0 → ppA r ws = ws ∧ ppB r ws = [] := by
  intro ws
  induction ws with
  | nil => intro _ _; exact ⟨rfl, rfl⟩
  | cons x ws ih =>
    intro h ho
    have hx := shp_mem _ h x List.mem_cons_self
    have n24 : x ≠ 24 := by intro e; rw [opn, if_pos e] at ho; omega
    rw [opn, if_neg n24] at ho
    obtain ⟨i1, i2⟩ := ih h.1 ho
    have hk := rk_op hx
    rw [if_neg n24] at hk
    have hc : r ≤ rkx x := by split at hk <;> omega
    rw [ppA, ppB, if_pos hc, if_pos hc, i1, i2]
    exact ⟨rfl, rfl⟩
theorem pp_app {r : Nat} : ∀ (ws X : List Nat), (∀ x ∈ ws, r ≤ rkx x) → ppA r (ws ++ X) = ws ++ ppA r X ∧ ppB r (ws ++ X) = ppB r X := by
  intro ws
  induction ws with
  | nil => intro X _; exact ⟨rfl, rfl⟩
  | cons x ws ih =>
    intro X h
    obtain ⟨i1, i2⟩ := ih X (fun y hy => h y (List.mem_cons_of_mem _ hy))
    have hc := h x List.mem_cons_self
    rw [List.cons_append, ppA, ppB, if_pos hc, if_pos hc, i1, i2]
    exact ⟨rfl, rfl⟩
theorem pp_stop {r : Nat} : ∀ (ws X : List Nat), (∃ x ∈ ws, rkx x < r) ∨ (∀ x, X[0]? = some x → rkx x < r) → ppA r (ws ++ X) = ppA r ws ∧ ppB r (ws ++ X) = ppB r ws ++ X := by
  intro ws
  induction ws with
  | nil =>
    intro X h
    rcases h with ⟨x, hx, _⟩ | h
    · cases hx
    · cases X with
      | nil => exact ⟨rfl, rfl⟩
      | cons y X =>
        have := h y rfl
        show ppA r (y :: X) = [] ∧ ppB r (y :: X) = y :: X
        rw [ppA, ppB, if_neg (by omega), if_neg (by omega)]
        exact ⟨rfl, rfl⟩
  | cons x ws ih =>
    intro X h
    rw [List.cons_append, ppA, ppB, ppA, ppB]
    by_cases hc : r ≤ rkx x
    · rw [if_pos hc, if_pos hc, if_pos hc, if_pos hc]
      obtain ⟨i1, i2⟩ := ih X (by
        rcases h with ⟨y, hy, hz⟩ | h
        · rcases List.mem_cons.mp hy with e | e
          · subst e; omega
          · exact Or.inl ⟨y, e, hz⟩
        · exact Or.inr h)
      rw [i1, i2]
      exact ⟨rfl, rfl⟩
    · rw [if_neg hc, if_neg hc, if_neg hc, if_neg hc]
      exact ⟨rfl, rfl⟩
theorem opn_mem : ∀ ws, 0 < opn ws → 24 ∈ ws := by
  intro ws
  induction ws with
  | nil => intro h; exact absurd h (Nat.lt_irrefl _)
  | cons x ws ih =>
    intro h
    rw [opn] at h
    by_cases e : x = 24
    · subst e; exact List.mem_cons_self
    · rw [if_neg e] at h
      exact List.mem_cons_of_mem _ (ih h)
-- depth of code
def dpt : List Nat → Nat → Nat
  | [], d => d
  | t :: c, d => if opd t then dpt c (d + 1) else dpt c (d - 1)
theorem evF_dpt (v : Nat → Int32) : ∀ (c : List Nat) (d : Nat) (g : Nat → Int32), (evF v c d g).1 = dpt c d := by
  intro c
  induction c with
  | nil => intro d g; rfl
  | cons t c ih =>
    intro d g
    rw [evF, dpt]
    split
    · exact ih _ _
    · exact ih _ _
theorem dpt_app : ∀ (c e : List Nat) (d : Nat), dpt (c ++ e) d = dpt e (dpt c d) := by
  intro c
  induction c with
  | nil => intro e d; rfl
  | cons t c ih =>
    intro e d
    rw [List.cons_append, dpt, dpt]
    split
    · exact ih _ _
    · exact ih _ _
theorem wfc_ap2 : ∀ (c e : List Nat) (d : Nat), wfc c d → wfc e (dpt c d) → wfc (c ++ e) d := by
  intro c
  induction c with
  | nil => intro e d _ h; exact h
  | cons t c ih =>
    intro e d h1 h2
    rw [dpt] at h2
    obtain ⟨a, h1⟩ := h1
    refine ⟨a, ?_⟩
    by_cases ho : opd t
    · rw [if_pos ho] at h1 h2 ⊢
      exact ⟨h1.1, ih e _ h1.2 h2⟩
    · rw [if_neg ho] at h1 h2 ⊢
      exact ⟨h1.1, ih e _ h1.2 h2⟩
theorem ops_dpt : ∀ (p : List Nat) (d : Nat), (∀ x ∈ p, x = 17 ∨ x = 18 ∨ x = 19) → p.length + 1 ≤ d → wfc p d ∧ dpt p d = d - p.length := by
  intro p
  induction p with
  | nil => intro d _ _; exact ⟨trivial, rfl⟩
  | cons x p ih =>
    intro d h hd
    have hx := h x List.mem_cons_self
    have ho : ¬ opd x := by omega
    simp only [List.length_cons] at hd
    obtain ⟨i1, i2⟩ := ih (d - 1) (fun y hy => h y (List.mem_cons_of_mem _ hy)) (by omega)
    rw [dpt, if_neg ho, i2, List.length_cons]
    refine ⟨⟨by omega, ?_⟩, by omega⟩
    rw [if_neg ho]
    exact ⟨by omega, i1⟩
theorem arc_app {c e : List Nat} (h1 : arc c) (h2 : arc e) : arc (c ++ e) := fun t ht => (List.mem_append.mp ht).elim (h1 t) (h2 t)
/-- an E under way: its code, what waits -/
def PE (st : Nat) (c ws : List Nat) : Prop := (shp ws ∧ opn ws ≤ 6) ∧ (wfc c 0 ∧ wfc c 4 ∧ arc c) ∧ dpt c 0 = nop ws + (st - 1) ∧ dpt c 4 = nop ws + (st - 1) + 4
theorem PE_0 : PE 1 [] [] := ⟨⟨trivial, Nat.zero_le _⟩, ⟨trivial, trivial, fun _ h => by cases h⟩, rfl, rfl⟩
theorem PE_len {st : Nat} {c ws : List Nat} (h : PE st c ws) : ws.length ≤ 20 ∧ nop ws + opn ws = ws.length := by
  have a := shp_len ws h.1.1
  have b := hd_le ws
  have c := h.1.2
  exact ⟨by omega, nop_opn ws⟩
theorem PE_open {c ws : List Nat} (h : PE 1 c ws) (ho : opn ws < 6) : PE 1 c (24 :: ws) := by
  obtain ⟨⟨h1, h2⟩, h3, h4, h5⟩ := h
  refine ⟨⟨⟨h1, Or.inl rfl⟩, ?_⟩, h3, ?_, ?_⟩
  · rw [opn, if_pos rfl]; omega
  · rw [nop, if_pos rfl]; exact h4
  · rw [nop, if_pos rfl]; exact h5
theorem PE_opd {c ws : List Nat} {t : Nat} (h : PE 1 c ws) (ho : opd t) (ht : t < 20000) : PE 2 (c ++ [t]) ws := by
  have hl := PE_len h
  obtain ⟨⟨h1, h2⟩, ⟨h3, h4, h5⟩, h6, h7⟩ := h
  have e : ∀ d, d < 32 → wfc [t] d := fun d hd => ⟨ht, by rw [if_pos ho]; exact ⟨hd, trivial⟩⟩
  refine ⟨⟨h1, h2⟩, ⟨wfc_ap2 _ _ _ h3 (e _ (by omega)), wfc_ap2 _ _ _ h4 (e _ (by omega)), arc_app h5 (fun x hx => ?_)⟩, ?_, ?_⟩
  · rcases List.mem_cons.mp hx with q | q
    · subst q; exact Or.inl ho
    · cases q
  · rw [dpt_app, dpt, if_pos ho, dpt]; omega
  · rw [dpt_app, dpt, if_pos ho, dpt]; omega
theorem PE_pop {c ws : List Nat} {r : Nat} (hr : 1 ≤ r) (h : PE 2 c ws) : (wfc (c ++ ppA r ws) 0 ∧ wfc (c ++ ppA r ws) 4 ∧ arc (c ++ ppA r ws)) ∧ dpt (c ++ ppA r ws) 0 = nop (ppB r ws) + 1 ∧ dpt (c ++ ppA r ws) 4 = nop (ppB r ws) + 1 + 4 := by
  obtain ⟨⟨h1, h2⟩, ⟨h3, h4, h5⟩, h6, h7⟩ := h
  obtain ⟨i1, i2, i3, i4, i5, i6, i7⟩ := pp_shp hr ws h1
  obtain ⟨a1, a2⟩ := ops_dpt (ppA r ws) (dpt c 0) i6 (by omega)
  obtain ⟨b1, b2⟩ := ops_dpt (ppA r ws) (dpt c 4) i6 (by omega)
  refine ⟨⟨wfc_ap2 _ _ _ h3 a1, wfc_ap2 _ _ _ h4 b1, arc_app h5 (fun x hx => ?_)⟩, ?_, ?_⟩
  · have := i6 x hx
    omega
  · rw [dpt_app, a2]; omega
  · rw [dpt_app, b2]; omega
theorem PE_op {c ws : List Nat} {t : Nat} (h : PE 2 c ws) (ht : t = 17 ∨ t = 18 ∨ t = 19) : PE 1 (c ++ ppA (rkx t) ws) (t :: ppB (rkx t) ws) := by
  have hr : 1 ≤ rkx t := by rcases ht with rfl | rfl | rfl <;> decide
  obtain ⟨a, b, d⟩ := PE_pop hr h
  obtain ⟨i1, i2, i3, i4, i5, i6, i7⟩ := pp_shp hr ws h.1.1
  refine ⟨⟨⟨i1, ?_⟩, ?_⟩, a, ?_, ?_⟩
  · rcases ht with rfl | rfl | rfl
    · exact Or.inr (Or.inl ⟨Or.inl rfl, i4 (by decide)⟩)
    · exact Or.inr (Or.inl ⟨Or.inr rfl, i4 (by decide)⟩)
    · exact Or.inr (Or.inr ⟨rfl, i3 (by decide)⟩)
  · rw [opn, if_neg (by omega), i2]; exact h.1.2
  · rw [nop, if_neg (by omega), b]
  · rw [nop, if_neg (by omega), d]
theorem PE_close {c ws : List Nat} (h : PE 2 c ws) (ho : 0 < opn ws) : ∃ s, ppB 1 ws = 24 :: s ∧ opn s + 1 = opn ws ∧ PE 2 (c ++ ppA 1 ws) s := by
  obtain ⟨a, b, d⟩ := PE_pop (r := 1) (by omega) h
  obtain ⟨i1, i2, i3, i4, i5, i6, i7⟩ := pp_shp (r := 1) (by omega) ws h.1.1
  rcases i7 (by omega) with e | ⟨s, e⟩
  · rw [e] at i2
    have : opn [] = 0 := rfl
    omega
  · rw [e] at i1 i2 b d
    rw [opn, if_pos rfl] at i2
    rw [nop, if_pos rfl] at b d
    refine ⟨s, e, i2, ⟨i1.1, ?_⟩, a, b, d⟩
    have := h.1.2
    omega
theorem PE_end {c ws : List Nat} (h : PE 2 c ws) (ho : opn ws = 0) : one (c ++ ws) ∧ arc (c ++ ws) := by
  obtain ⟨a, b, d⟩ := PE_pop (r := 1) (by omega) h
  obtain ⟨e1, e2⟩ := pp_all (r := 1) (by omega) ws h.1.1 ho
  rw [e1, e2] at b
  rw [e1] at a
  refine ⟨⟨⟨a.1, a.2.1⟩, fun v => ?_⟩, a.2.2⟩
  rw [evF_dpt]
  exact b
