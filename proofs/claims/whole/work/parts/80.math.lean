theorem aMath2_ok : aMath2 := by
  intro xs L hL σ hG h0 hc
  obtain ⟨y, σ', h1, h2⟩ := law_loop xs hL (N := 100000) (Nat.le_refl _) (L + 1) 0 σ (by omega) (Nat.zero_le _) (inv_0 hG h0 hc)
  exact ⟨100000, L + 1, (y, σ'), h1, h2⟩
