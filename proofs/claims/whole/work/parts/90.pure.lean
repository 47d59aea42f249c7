/-- what is left of the law, without the machine -/
theorem pure_main (b L : Nat) (xs : Nat → Int32) (hL : L ≤ 2560) : f_L_law_18 L xs b (b + 142) gFuel 0 (hT0 b) = some true := lp_up hL (fun t x1 x2 x3 x4 => s_solve b (b + 142) t x1 x2 x3 x4) (fun t => s_read b (b + 142) t) gFuel 0 (hT0 b) gZ0 (by omega) (by unfold gFuel; omega) (lp_cI b) (lp_mI b) lp_wI
