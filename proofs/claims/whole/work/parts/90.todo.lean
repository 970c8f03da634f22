theorem law_true (L : Nat) (xs : Nat → Int32) (hL : L ≤ 320) : Ok (f_X10_init hInit) (fun h => Ok (f_L_law L xs h) (fun q => q.1 = true)) := by
  sorry
