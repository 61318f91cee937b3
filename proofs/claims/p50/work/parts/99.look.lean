theorem i_vc : Claimed_1_1 ∧ Claimed_1_2 := y_vc y_ends
