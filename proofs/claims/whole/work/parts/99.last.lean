theorem zz_test : (1:Nat) + 1 = 2 := rfl
theorem i_vc : Claimed_1_1 ∧ Claimed_1_2 := sorry
