/-! THE OWED STATEMENT -/
theorem i_vc : Claimed_1_1 ∧ Claimed_1_2 := gm_claim gq_pure
