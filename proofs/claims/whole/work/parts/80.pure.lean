theorem pure_all (L : Nat) (xs : Nat → Int32) (hL : L ≤ 3074) : whole_pure L xs := sorry
