theorem zpure (sa : Nat → Nat) (base : Nat) (xs : Nat → Int32) (L : Nat) (hL : L ≤ 4096) (hD : zD sa base) : ∃ mo, fL_law xs L (zm0 sa, base, sa) = some (1, mo) := sorry
