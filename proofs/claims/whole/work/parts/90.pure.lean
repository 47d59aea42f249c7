/-- what is left of the law, without the machine -/
theorem pure_main (b L : Nat) (xs : Nat → Int32) (hL : L ≤ 2560) : f_L_law_18 L xs b (b + 142) gFuel 0 (hT0 b) = some true := sorry
