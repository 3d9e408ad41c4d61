/-! what is owed -/
theorem i_vc : Claimed_1_1 ∧ Claimed_1_2 := qz_claim qz_R qz_all
