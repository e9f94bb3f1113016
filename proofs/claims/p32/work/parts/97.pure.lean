theorem p_law (xs : Nat → Int32) (L : Nat) : f_L_law_8 xs L ed_m1 = some 1 := sorry
