/-- Long.bitCount is what bcl says -/
theorem bc_lk_94 : bcLk 94 54 := sorry
