/-! ===== what is left: the functional form of the law, from a store that the constructors leave ===== -/
def aMathOK : Prop := ∀ (xs : Nat → Int32) (L : Nat), L ≤ 3072 → ∀ σ : aSt, Gr σ → In0 σ → ∃ (N n : Nat) (q : Int32 × aSt), H_L_law_18 xs L N n 0 σ = some q ∧ q.1 = 1
theorem ev_newO {xs : Nat → Int32} {L j pc : Nat} {ls st : List Value} {σ : aSt} {v : Option Value} {σ' : aSt} {ci n p a : Nat} (ho : aPr xs L j pc = oNewO ci n p) (ha : σ.1 = a) (h : Ev xs L j p ls (.ref a :: st) (aNew σ ci n) v σ') : Ev xs L j pc ls st σ v σ' := by
  subst ha
  exact ev_one ho h
theorem aLaw_of (HM : aMathOK) (xs : Nat → Int32) (L : Nat) (hL : L ≤ 3072) : ∃ (n : Nat) (σ' : aSt), aRun xs L n 188 0 (aEnt 4 [.float 0]) [] aS0' = some (some (.int 1), σ') ∧ σ'.1 ≤ 600000 ∧ σ'.2.1 ≤ 7302250 := by
  obtain ⟨σ1, σ2, hc, hn1, hG, hI⟩ := aStart
  obtain ⟨hc1, hc2⟩ := hc xs L
  obtain ⟨N, n, q, hq, h1⟩ := HM xs L hL σ2 hG hI
  obtain ⟨hev, hG2⟩ := TH_L_law_18 xs L N n 0 σ2 q hq hG
  have he : Ev xs L 188 0 [.float 0, aU, aU, aU] [] aS0' (some (.int 1)) q.2 := by
    rw [h1] at hev
    refine ev_newO (a := 0) rfl rfl ?_
    refine ev_dupR rfl ?_
    refine ev_callI (as := []) (r := [.ref 0]) rfl rfl rfl rfl (Nat.le_of_ble_eq_true rfl) (Nat.le_of_ble_eq_true rfl) hc1 ?_
    refine ev_astore (ls' := [.float 0, .ref 0, aU, aU]) rfl (Nat.le_of_ble_eq_true rfl) rfl ?_
    refine ev_newO (a := 235) rfl hn1 ?_
    refine ev_dupR rfl ?_
    refine ev_callI (as := []) (r := [.ref 235]) rfl rfl rfl rfl (Nat.le_of_ble_eq_true rfl) (Nat.le_of_ble_eq_true rfl) hc2 ?_
    refine ev_astore (ls' := [.float 0, .ref 0, .ref 235, aU]) rfl (Nat.le_of_ble_eq_true rfl) rfl ?_
    refine ev_push rfl ?_
    exact ev_istore (ls' := [.float 0, .ref 0, .ref 235, .int 0]) rfl (Nat.le_of_ble_eq_true rfl) rfl hev
  obtain ⟨N', hN'⟩ := he
  exact ⟨N', q.2, hN' N' (Nat.le_refl _), by rw [hG2.1]; decide, by rw [hG2.2.2.2.2]; decide⟩
