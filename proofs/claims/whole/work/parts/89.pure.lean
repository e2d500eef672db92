theorem law_pure (L : Nat) (xs : Nat → Int32) (hL : L ≤ 2048) : ∃ σ9 : hb_M, f_L_law L xs hb_m0 = some (1, σ9) := sorry
