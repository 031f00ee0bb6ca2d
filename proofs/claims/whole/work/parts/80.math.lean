theorem aMath_ok : aMathOK := by
  sorry
