theorem pure_law {L : Nat} {sx : Nat → Int32} (hL : L ≤ 3072) : f_L_law L sx M0 = some 1 := sorry
