/-! THE END -/
theorem lawOk : LawOk := fun xs L hL => law_run xs L hL
theorem i_vc : Claimed_1_1 ∧ Claimed_1_2 := i_vc_open lawOk
