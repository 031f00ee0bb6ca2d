/-! ===== the parser without a store: rules ===== -/
/-- rules so far, word, E, relations so far, joined by 'or', left E, sign -/
abbrev CX : Type := List Ru × Nat × List Nat × List Rl × Bool × List Nat × Nat
abbrev xR (C : CX) : List Ru := C.1
abbrev xW (C : CX) : Nat := C.2.1
abbrev xV (C : CX) : List Nat := C.2.2.1
abbrev xL (C : CX) : List Rl := C.2.2.2.1
abbrev xO (C : CX) : Bool := C.2.2.2.2.1
abbrev xE (C : CX) : List Nat := C.2.2.2.2.2.1
abbrev xS (C : CX) : Nat := C.2.2.2.2.2.2
abbrev fit (st pt op t : Nat) : Prop := (st = 0 ∧ (t ≤ 2 ∨ t = 27)) ∨ (st = 1 ∧ (t = 24 ∨ opd t)) ∨ (st = 2 ∧ ((17 ≤ t ∧ t ≤ 19) ∨ (0 < op ∧ t = 25) ∨ (op = 0 ∧ ((pt = 1 ∧ 20 ≤ t ∧ t ≤ 23) ∨ (pt = 2 ∧ (t = 4 ∨ t = 5 ∨ t = 16)) ∨ (pt = 0 ∧ (t = 3 ∨ t = 16))))))
abbrev rmo (k st op nr t : Nat) : Prop := k < 400 ∧ (st = 0 → nr < 20) ∧ (t = 24 → op < 6)
def finR (C : CX) (e : List Nat) : List Rl := xL C ++ [(xO C, xS C, xE C, e)]
def cNew (rs : List Ru) (w : Nat) : CX := (rs, w, [], [], true, [], 0)
def cIfE (C : CX) (e : List Nat) : CX := (xR C, xW C, e, [], true, [], 0)
def cRel (C : CX) (e : List Nat) (s : Nat) : CX := (xR C, xW C, xV C, xL C, xO C, e, s)
def cCon (C : CX) (e : List Nat) (o : Bool) : CX := (xR C, xW C, xV C, finR C e, o, [], 0)
def cEnd (pt : Nat) (C : CX) (e : List Nat) : CX := cNew (xR C ++ [if pt = 0 then (xW C, e, []) else (xW C, xV C, finR C e)]) 0
def run (tk pl : Nat → Nat) : Nat → Nat → Nat → Nat → CX → List Nat → List Nat → Nat × Nat × List Ru
  | 0, _, _, _, _, _, _ => (0, 0, [])
  | n + 1, k, st, pt, C, c, ws => if ¬ fit st pt (opn ws) (tk k) then (1, pl k, []) else if tk k = 27 then (0, 0, xR C) else if ¬ rmo k st (opn ws) (xR C).length (tk k) then (2, pl k, []) else if st = 0 then run tk pl n (k + 1) 1 0 (cNew (xR C) (tk k)) [] [] else if st = 1 then (if tk k = 24 then run tk pl n (k + 1) 1 pt C c (24 :: ws) else run tk pl n (k + 1) 2 pt C (c ++ [tk k]) ws) else if tk k = 25 then run tk pl n (k + 1) 2 pt C (c ++ ppA 1 ws) (ppB 1 ws).tail else if 17 ≤ tk k ∧ tk k ≤ 19 then run tk pl n (k + 1) 1 pt C (c ++ ppA (rkx (tk k)) ws) (tk k :: ppB (rkx (tk k)) ws) else if tk k = 3 then run tk pl n (k + 1) 1 1 (cIfE C (c ++ ws)) [] [] else if 20 ≤ tk k then run tk pl n (k + 1) 1 2 (cRel C (c ++ ws) (tk k - 20)) [] [] else if tk k = 16 then run tk pl n (k + 1) 0 0 (cEnd pt C (c ++ ws)) [] [] else run tk pl n (k + 1) 1 1 (cCon C (c ++ ws) (decide (tk k = 4))) [] []
def wl2 : List Rl → Nat
  | [] => 0
  | q :: rl => q.2.2.1.length + q.2.2.2.length + 2 + wl2 rl
def wtr : List Ru → Nat
  | [] => 0
  | u :: rs => u.2.1.length + wl2 u.2.2 + wtr rs
theorem wl2_app : ∀ (a c : List Rl), wl2 (a ++ c) = wl2 a + wl2 c := by
  intro a
  induction a with
  | nil => intro c; exact (Nat.zero_add _).symm
  | cons q a ih => intro c; rw [List.cons_append, wl2, wl2, ih]; omega
theorem wtr_app : ∀ (a c : List Ru), wtr (a ++ c) = wtr a + wtr c := by
  intro a
  induction a with
  | nil => intro c; exact (Nat.zero_add _).symm
  | cons q a ih => intro c; rw [List.cons_append, wtr, wtr, ih]; omega
theorem wl2_len : ∀ a : List Rl, 2 * a.length ≤ wl2 a := by
  intro a
  induction a with
  | nil => exact Nat.zero_le _
  | cons q a ih => rw [wl2, List.length_cons]; omega
/-- bytes of all that was read are no more than tokens -/
def tot (pt : Nat) (C : CX) (c ws : List Nat) : Nat := wtr (xR C) + (xV C).length + wl2 (xL C) + pt + (xE C).length + c.length + ws.length
/-- what holds of rules and relations ahead of the E under way -/
def PC (st pt : Nat) (C : CX) : Prop := (st ≤ 2 ∧ pt ≤ 2 ∧ (xR C).length ≤ 20 ∧ (∀ u ∈ xR C, okR u)) ∧ (st ≠ 0 → xW C < 3 ∧ (xR C).length < 20) ∧ (st = 0 → pt = 0) ∧ (pt = 0 → xV C = [] ∧ xL C = []) ∧ (pt ≠ 2 → xE C = []) ∧ (pt ≠ 0 → one (xV C) ∧ arc (xV C)) ∧ ((∀ q ∈ xL C, okL q) ∧ (∀ q, (xL C)[0]? = some q → q.1 = true) ∧ (xL C = [] → xO C = true)) ∧ (pt = 2 → (one (xE C) ∧ arc (xE C)) ∧ xS C < 4)
def PI (k st pt : Nat) (C : CX) (c ws : List Nat) : Prop := k ≤ 400 ∧ PC st pt C ∧ (st = 0 → c = [] ∧ ws = []) ∧ (st ≠ 0 → PE st c ws) ∧ tot pt C c ws ≤ k
theorem PC_st {st st' pt : Nat} {C : CX} (h : PC st pt C) (h0 : st ≠ 0) (h1 : st' ≠ 0) (h2 : st' ≤ 2) : PC st' pt C := ⟨⟨h2, h.1.2⟩, fun _ => h.2.1 h0, fun e => absurd e h1, h.2.2.2⟩
theorem finR_ok {st pt : Nat} {C : CX} {e : List Nat} (h : PC st pt C) (hp : pt = 2) (he : one e ∧ arc e) : (∀ q ∈ finR C e, okL q) ∧ (∀ q, (finR C e)[0]? = some q → q.1 = true) ∧ finR C e ≠ [] := by
  obtain ⟨h1, h2, h3, h4, h5, h6, ⟨h7, h8, h9⟩, h10⟩ := h
  unfold finR
  refine ⟨fun q hq => ?_, fun q hq => ?_, by simp⟩
  · rcases List.mem_append.mp hq with e1 | e1
    · exact h7 q e1
    · rcases List.mem_cons.mp e1 with e2 | e2
      · subst e2
        exact ⟨(h10 hp).2, (h10 hp).1, he⟩
      · cases e2
  · cases e1 : xL C with
    | nil =>
      rw [e1] at hq
      cases hq
      exact h9 e1
    | cons y ys =>
      rw [e1] at hq
      rw [e1] at h8
      exact h8 q hq
theorem PC_new {pt : Nat} {C : CX} {w : Nat} (h : PC 0 pt C) (hw : w < 3) (hl : (xR C).length < 20) : PC 1 0 (cNew (xR C) w) := ⟨⟨by omega, by omega, h.1.2.2⟩, fun _ => ⟨hw, hl⟩, fun e => by omega, fun _ => ⟨rfl, rfl⟩, fun _ => rfl, fun e => absurd rfl e, ⟨fun q hq => (by cases hq), fun q hq => (by cases hq), fun _ => rfl⟩, fun e => by omega⟩
theorem PC_if {C : CX} {e : List Nat} (h : PC 2 0 C) (he : one e ∧ arc e) : PC 1 1 (cIfE C e) := ⟨⟨by omega, by omega, h.1.2.2⟩, fun _ => h.2.1 (by omega), fun e => by omega, fun e => by omega, fun _ => rfl, fun _ => he, ⟨fun q hq => (by cases hq), fun q hq => (by cases hq), fun _ => rfl⟩, fun e => by omega⟩
theorem PC_rel {C : CX} {e : List Nat} {s : Nat} (h : PC 2 1 C) (he : one e ∧ arc e) (hs : s < 4) : PC 1 2 (cRel C e s) := ⟨⟨by omega, by omega, h.1.2.2⟩, fun _ => h.2.1 (by omega), fun e => by omega, fun e => by omega, fun e => absurd rfl e, fun _ => h.2.2.2.2.2.1 (by omega), h.2.2.2.2.2.2.1, fun _ => ⟨he, hs⟩⟩
theorem PC_con {C : CX} {e : List Nat} {o : Bool} (h : PC 2 2 C) (he : one e ∧ arc e) : PC 1 1 (cCon C e o) := by
  obtain ⟨a, b, c⟩ := finR_ok h rfl he
  exact ⟨⟨by omega, by omega, h.1.2.2⟩, fun _ => h.2.1 (by omega), fun e => by omega, fun e => by omega, fun _ => rfl, fun _ => h.2.2.2.2.2.1 (by omega), ⟨a, b, fun q => absurd q c⟩, fun e => by omega⟩
theorem PC_end {pt : Nat} {C : CX} {e : List Nat} (h : PC 2 pt C) (hp : pt = 0 ∨ pt = 2) (he : one e ∧ arc e) : PC 0 0 (cEnd pt C e) := by
  have hl := h.2.1 (by omega)
  refine ⟨⟨by omega, by omega, ?_, fun u hu => ?_⟩, fun e => absurd rfl e, fun _ => rfl, fun _ => ⟨rfl, rfl⟩, fun _ => rfl, fun e => absurd rfl e, ⟨fun q hq => (by cases hq), fun q hq => (by cases hq), fun _ => rfl⟩, fun e => by omega⟩
  · show (xR C ++ [_]).length ≤ 20
    rw [List.length_append, List.length_singleton]
    omega
  · have hu' : u ∈ xR C ++ [if pt = 0 then (xW C, e, []) else (xW C, xV C, finR C e)] := hu
    rcases List.mem_append.mp hu' with q | q
    · exact h.1.2.2.2 u q
    · rcases List.mem_cons.mp q with q | q
      · subst q
        rcases hp with rfl | rfl
        · rw [if_pos rfl]
          exact ⟨hl.1, he, fun q hq => (by cases hq), fun q hq => by cases hq⟩
        · rw [if_neg (by omega)]
          obtain ⟨a, b, c⟩ := finR_ok h rfl he
          exact ⟨hl.1, h.2.2.2.2.2.1 (by omega), a, b⟩
      · cases q
section RUN
variable {tk pl : Nat → Nat} {n k st pt : Nat} {C : CX} {c ws : List Nat}
theorem run_bad (h : ¬ fit st pt (opn ws) (tk k)) : run tk pl (n + 1) k st pt C c ws = (1, pl k, []) := by rw [run, if_pos h]
theorem run_27 (h : fit st pt (opn ws) (tk k)) (h27 : tk k = 27) : run tk pl (n + 1) k st pt C c ws = (0, 0, xR C) := by rw [run, if_neg (fun q => q h), if_pos h27]
theorem run_room (h : fit st pt (opn ws) (tk k)) (h27 : tk k ≠ 27) (hr : ¬ rmo k st (opn ws) (xR C).length (tk k)) : run tk pl (n + 1) k st pt C c ws = (2, pl k, []) := by rw [run, if_neg (fun q => q h), if_neg h27, if_pos hr]
theorem run_rule (h : fit 0 pt (opn ws) (tk k)) (h27 : tk k ≠ 27) (hr : rmo k 0 (opn ws) (xR C).length (tk k)) : run tk pl (n + 1) k 0 pt C c ws = run tk pl n (k + 1) 1 0 (cNew (xR C) (tk k)) [] [] := by rw [run, if_neg (fun q => q h), if_neg h27, if_neg (fun q => q hr), if_pos rfl]
theorem run_open (h24 : tk k = 24) (hr : rmo k 1 (opn ws) (xR C).length (tk k)) : run tk pl (n + 1) k 1 pt C c ws = run tk pl n (k + 1) 1 pt C c (24 :: ws) := by rw [run, if_neg (fun q => q (Or.inr (Or.inl ⟨rfl, Or.inl h24⟩))), if_neg (by omega), if_neg (fun q => q hr), if_neg (by omega), if_pos rfl, if_pos h24]
theorem run_opd (ho : opd (tk k)) (hr : rmo k 1 (opn ws) (xR C).length (tk k)) : run tk pl (n + 1) k 1 pt C c ws = run tk pl n (k + 1) 2 pt C (c ++ [tk k]) ws := by rw [run, if_neg (fun q => q (Or.inr (Or.inl ⟨rfl, Or.inr ho⟩))), if_neg (by omega), if_neg (fun q => q hr), if_neg (by omega), if_pos rfl, if_neg (by omega)]
theorem run_close (h25 : tk k = 25) (ho : 0 < opn ws) (hr : k < 400) : run tk pl (n + 1) k 2 pt C c ws = run tk pl n (k + 1) 2 pt C (c ++ ppA 1 ws) (ppB 1 ws).tail := by rw [run, if_neg (fun q => q (Or.inr (Or.inr ⟨rfl, Or.inr (Or.inl ⟨ho, h25⟩)⟩))), if_neg (by omega), if_neg (fun q => q ⟨hr, by omega, by omega⟩), if_neg (by omega), if_neg (by omega), if_pos h25]
theorem run_op (h1 : 17 ≤ tk k) (h2 : tk k ≤ 19) (hr : k < 400) : run tk pl (n + 1) k 2 pt C c ws = run tk pl n (k + 1) 1 pt C (c ++ ppA (rkx (tk k)) ws) (tk k :: ppB (rkx (tk k)) ws) := by rw [run, if_neg (fun q => q (Or.inr (Or.inr ⟨rfl, Or.inl ⟨h1, h2⟩⟩))), if_neg (by omega), if_neg (fun q => q ⟨hr, by omega, by omega⟩), if_neg (by omega), if_neg (by omega), if_neg (by omega), if_pos ⟨h1, h2⟩]
theorem run_if (h3 : tk k = 3) (ho : opn ws = 0) (hr : k < 400) : run tk pl (n + 1) k 2 0 C c ws = run tk pl n (k + 1) 1 1 (cIfE C (c ++ ws)) [] [] := by rw [run, if_neg (fun q => q (by omega)), if_neg (by omega), if_neg (fun q => q ⟨hr, by omega, by omega⟩), if_neg (by omega), if_neg (by omega), if_neg (by omega), if_neg (by omega), if_pos h3]
theorem run_rel (h1 : 20 ≤ tk k) (h2 : tk k ≤ 23) (ho : opn ws = 0) (hr : k < 400) : run tk pl (n + 1) k 2 1 C c ws = run tk pl n (k + 1) 1 2 (cRel C (c ++ ws) (tk k - 20)) [] [] := by rw [run, if_neg (fun q => q (by omega)), if_neg (by omega), if_neg (fun q => q ⟨hr, by omega, by omega⟩), if_neg (by omega), if_neg (by omega), if_neg (by omega), if_neg (by omega), if_neg (by omega), if_pos h1]
theorem run_semi (h16 : tk k = 16) (hp : pt = 0 ∨ pt = 2) (ho : opn ws = 0) (hr : k < 400) : run tk pl (n + 1) k 2 pt C c ws = run tk pl n (k + 1) 0 0 (cEnd pt C (c ++ ws)) [] [] := by rw [run, if_neg (fun q => q (by omega)), if_neg (by omega), if_neg (fun q => q ⟨hr, by omega, by omega⟩), if_neg (by omega), if_neg (by omega), if_neg (by omega), if_neg (by omega), if_neg (by omega), if_neg (by omega), if_pos h16]
theorem run_con (h45 : tk k = 4 ∨ tk k = 5) (ho : opn ws = 0) (hr : k < 400) : run tk pl (n + 1) k 2 2 C c ws = run tk pl n (k + 1) 1 1 (cCon C (c ++ ws) (decide (tk k = 4))) [] [] := by rw [run, if_neg (fun q => q (by omega)), if_neg (by omega), if_neg (fun q => q ⟨hr, by omega, by omega⟩), if_neg (by omega), if_neg (by omega), if_neg (by omega), if_neg (by omega), if_neg (by omega), if_neg (by omega), if_neg (by omega)]
-- what holds is kept
theorem PI_rule (h : PI k 0 pt C c ws) (hk : k < 400) (hl : (xR C).length < 20) {w : Nat} (hw : w < 3) : PI (k + 1) 1 0 (cNew (xR C) w) [] [] := by
  obtain ⟨h1, h2, h3, h4, h5⟩ := h
  refine ⟨by omega, PC_new h2 hw hl, fun e => by omega, fun _ => PE_0, ?_⟩
  unfold tot at h5 ⊢
  show wtr (xR C) + 0 + 0 + 0 + 0 + 0 + 0 ≤ k + 1
  omega
theorem PI_open (h : PI k 1 pt C c ws) (hk : k < 400) (ho : opn ws < 6) : PI (k + 1) 1 pt C c (24 :: ws) := by
  obtain ⟨h1, h2, h3, h4, h5⟩ := h
  refine ⟨by omega, h2, fun e => by omega, fun _ => PE_open (h4 (by omega)) ho, ?_⟩
  unfold tot at h5 ⊢
  rw [List.length_cons]
  omega
theorem PI_opd (h : PI k 1 pt C c ws) (hk : k < 400) {t : Nat} (ho : opd t) (ht : t < 20000) : PI (k + 1) 2 pt C (c ++ [t]) ws := by
  obtain ⟨h1, h2, h3, h4, h5⟩ := h
  refine ⟨by omega, PC_st h2 (by omega) (by omega) (by omega), fun e => by omega, fun _ => PE_opd (h4 (by omega)) ho ht, ?_⟩
  unfold tot at h5 ⊢
  rw [List.length_append, List.length_singleton]
  omega
theorem PI_close (h : PI k 2 pt C c ws) (hk : k < 400) (ho : 0 < opn ws) : ∃ s, ppB 1 ws = 24 :: s ∧ opn s + 1 = opn ws ∧ PI (k + 1) 2 pt C (c ++ ppA 1 ws) s := by
  obtain ⟨h1, h2, h3, h4, h5⟩ := h
  obtain ⟨s, e1, e2, e3⟩ := PE_close (h4 (by omega)) ho
  refine ⟨s, e1, e2, by omega, h2, fun e => by omega, fun _ => e3, ?_⟩
  have := pp_len 1 ws
  rw [e1, List.length_cons] at this
  unfold tot at h5 ⊢
  rw [List.length_append]
  omega
theorem PI_op (h : PI k 2 pt C c ws) (hk : k < 400) {t : Nat} (ht : t = 17 ∨ t = 18 ∨ t = 19) : PI (k + 1) 1 pt C (c ++ ppA (rkx t) ws) (t :: ppB (rkx t) ws) := by
  obtain ⟨h1, h2, h3, h4, h5⟩ := h
  refine ⟨by omega, PC_st h2 (by omega) (by omega) (by omega), fun e => by omega, fun _ => PE_op (h4 (by omega)) ht, ?_⟩
  have := pp_len (rkx t) ws
  unfold tot at h5 ⊢
  rw [List.length_append, List.length_cons]
  omega
theorem PI_if (h : PI k 2 0 C c ws) (hk : k < 400) (ho : opn ws = 0) : PI (k + 1) 1 1 (cIfE C (c ++ ws)) [] [] := by
  obtain ⟨h1, h2, h3, h4, h5⟩ := h
  refine ⟨by omega, PC_if h2 (PE_end (h4 (by omega)) ho), fun e => by omega, fun _ => PE_0, ?_⟩
  obtain ⟨e1, e2⟩ := h2.2.2.2.1 rfl
  unfold tot at h5 ⊢
  show wtr (xR C) + (c ++ ws).length + 0 + 1 + 0 + 0 + 0 ≤ k + 1
  rw [List.length_append]
  omega
theorem PI_rel (h : PI k 2 1 C c ws) (hk : k < 400) (ho : opn ws = 0) {s : Nat} (hs : s < 4) : PI (k + 1) 1 2 (cRel C (c ++ ws) s) [] [] := by
  obtain ⟨h1, h2, h3, h4, h5⟩ := h
  refine ⟨by omega, PC_rel h2 (PE_end (h4 (by omega)) ho) hs, fun e => by omega, fun _ => PE_0, ?_⟩
  unfold tot at h5 ⊢
  show wtr (xR C) + (xV C).length + wl2 (xL C) + 2 + (c ++ ws).length + 0 + 0 ≤ k + 1
  rw [List.length_append]
  omega
theorem wl2_fin {C : CX} {e : List Nat} : wl2 (finR C e) = wl2 (xL C) + ((xE C).length + e.length + 2) := by
  unfold finR
  rw [wl2_app]
  show wl2 (xL C) + ((xE C).length + e.length + 2 + 0) = _
  omega
theorem PI_con (h : PI k 2 2 C c ws) (hk : k < 400) (ho : opn ws = 0) {o : Bool} : PI (k + 1) 1 1 (cCon C (c ++ ws) o) [] [] := by
  obtain ⟨h1, h2, h3, h4, h5⟩ := h
  refine ⟨by omega, PC_con h2 (PE_end (h4 (by omega)) ho), fun e => by omega, fun _ => PE_0, ?_⟩
  unfold tot at h5 ⊢
  show wtr (xR C) + (xV C).length + wl2 (finR C (c ++ ws)) + 1 + 0 + 0 + 0 ≤ k + 1
  rw [wl2_fin, List.length_append]
  omega
theorem PI_semi (h : PI k 2 pt C c ws) (hp : pt = 0 ∨ pt = 2) (hk : k < 400) (ho : opn ws = 0) : PI (k + 1) 0 0 (cEnd pt C (c ++ ws)) [] [] := by
  obtain ⟨h1, h2, h3, h4, h5⟩ := h
  refine ⟨by omega, PC_end h2 hp (PE_end (h4 (by omega)) ho), fun _ => ⟨rfl, rfl⟩, fun e => absurd rfl e, ?_⟩
  unfold tot at h5 ⊢
  show wtr (xR C ++ [if pt = 0 then (xW C, c ++ ws, []) else (xW C, xV C, finR C (c ++ ws))]) + 0 + 0 + 0 + 0 + 0 + 0 ≤ k + 1
  rw [wtr_app]
  rcases hp with rfl | rfl
  · rw [if_pos rfl]
    show wtr (xR C) + ((c ++ ws).length + 0 + 0) + 0 + 0 + 0 + 0 + 0 + 0 ≤ k + 1
    rw [List.length_append]
    omega
  · rw [if_neg (by omega)]
    show wtr (xR C) + ((xV C).length + wl2 (finR C (c ++ ws)) + 0) + 0 + 0 + 0 + 0 + 0 + 0 ≤ k + 1
    rw [wl2_fin, List.length_append]
    omega
end RUN
theorem PI_0 : PI 0 0 0 (cNew [] 0) [] [] := ⟨by omega, ⟨⟨by omega, by omega, by show 0 ≤ 20; omega, fun u hu => by cases hu⟩, fun e => absurd rfl e, fun _ => rfl, fun _ => ⟨rfl, rfl⟩, fun _ => rfl, fun e => absurd rfl e, ⟨fun q hq => (by cases hq), fun q hq => (by cases hq), fun _ => rfl⟩, fun e => by omega⟩, fun _ => ⟨rfl, rfl⟩, fun e => absurd rfl e, Nat.le_refl _⟩
