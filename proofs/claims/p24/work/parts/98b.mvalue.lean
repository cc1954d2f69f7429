theorem sq_n1 {k : Nat} {f : Nat → Option (Option (List (Nat × Nat)) × Nat)} : sq (some (some [], k)) f = f k := sorry
