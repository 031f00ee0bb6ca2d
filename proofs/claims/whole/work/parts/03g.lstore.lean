section LST
variable {G : aGl} {M : aMI} {pc : Nat}
theorem aS2_len : ∀ (ls : List Value) (i : Nat) (v : Value), (aS2 ls i v).length = ls.length
  | [], i, _ => by cases i <;> rfl
  | [_], 0, _ => rfl
  | _ :: _ :: _, 0, _ => rfl
  | _ :: r, 1, v => by simp [aS2, aS2_len r 0 v]
  | _ :: r, i + 2, v => by simp [aS2, aS2_len r (i + 1) v]
theorem aS2_at : ∀ (ls : List Value) (i : Nat) (v : Value) (j : Nat) (w : Value), (aS2 ls i v)[j]? = some w → aOk w → (j = i ∧ w = v) ∨ (j ≠ i ∧ j ≠ i + 1 ∧ ls[j]? = some w ∧ (j + 1 = i → ∀ y, w ≠ .long y))
  | [], i, _, j, w, h, _ => by cases i <;> simp [aS2] at h
  | [x], 0, v, 0, w, h, _ => by simp [aS2] at h; exact Or.inl ⟨rfl, h.symm⟩
  | [x], 0, v, j + 1, w, h, _ => by simp [aS2] at h
  | x :: y :: r, 0, v, 0, w, h, _ => by simp [aS2] at h; exact Or.inl ⟨rfl, h.symm⟩
  | x :: y :: r, 0, v, 1, w, h, hw => by
    simp [aS2] at h
    subst h
    exact absurd hw (by simp [aU, aOk])
  | x :: y :: r, 0, v, j + 2, w, h, _ => by
    simp [aS2] at h
    exact Or.inr ⟨by omega, by omega, by simpa using h, by omega⟩
  | x :: r, 1, v, 0, w, h, hw => by
    simp [aS2] at h
    subst h
    have := aKl_ne hw
    exact Or.inr ⟨by omega, by omega, by simp [this.1], fun _ => by rw [this.1]; exact this.2⟩
  | x :: r, 1, v, j + 1, w, h, hw => by
    simp only [aS2, List.getElem?_cons_succ] at h
    rcases aS2_at r 0 v j w h hw with ⟨h1, h2⟩ | ⟨h1, h2, h3, h4⟩
    · exact Or.inl ⟨by omega, h2⟩
    · exact Or.inr ⟨by omega, by omega, by simpa using h3, by omega⟩
  | x :: r, i + 2, v, 0, w, h, _ => by
    simp [aS2] at h
    exact Or.inr ⟨by omega, by omega, by simp [h], by omega⟩
  | x :: r, i + 2, v, j + 1, w, h, hw => by
    simp only [aS2, List.getElem?_cons_succ] at h
    rcases aS2_at r (i + 1) v j w h hw with ⟨h1, h2⟩ | ⟨h1, h2, h3, h4⟩
    · exact Or.inl ⟨by omega, h2⟩
    · exact Or.inr ⟨by omega, by omega, by simpa using h3, fun e => h4 (by omega)⟩
theorem sd_lstore {i : Nat} (hd : decode M.2.1 pc = .ok (.lstore i, 2)) : aSnd G M pc (oLstore i (pc + 2)) := by
  intro call k hc hk ls st σ v σ' h
  obtain ⟨x, r, rfl, h_1⟩ := pJ_inv h
  obtain ⟨hn, h_2⟩ := cIf_inv h_1
  obtain ⟨hm, hw⟩ := hk _ _ _ _ _ _ h_2
  refine ⟨hm, fun p l e R s m args below meth c H locs cells slots mc ms real C hK hB hDy hl => ?_⟩
  obtain ⟨h0, l', h1, h2⟩ := hl
  refine lv_lstore C.1 C.2.1 hd h1 (by omega) rfl (fun ls' h' => hw p l e R s m args below meth c H locs cells slots mc ms ls' C hK hB hDy ⟨by rw [aS2_len, h0], _, h', fun j w hj hw => ?_⟩)
  rcases aS2_at ls i _ j w hj hw with ⟨rfl, rfl⟩ | ⟨e1, e2, e3, e4⟩
  · exact List.mem_cons_self
  · refine List.mem_cons_of_mem _ (List.mem_filter.mpr ⟨h2 j w e3 hw, ?_⟩)
    simp only [Bool.and_eq_true, Bool.not_eq_true', beq_eq_false_iff_ne, ne_eq, Bool.and_eq_false_imp, beq_iff_eq]
    refine ⟨e1, e2, fun e => ?_⟩
    have h3 := e4 e
    rw [aT_cat hK.1.2.2.2.2]
    cases w <;> simp_all [Value.category, aOk]
end LST
