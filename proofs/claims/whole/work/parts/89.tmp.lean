theorem law_math (xs : Nat → Int32) (L : Nat) (hL : L ≤ 2560) : wp_law xs L := sorry
