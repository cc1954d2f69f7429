theorem sq_n1 {k : Nat} {f : Nat → Option (Option (List (Nat × Nat)) × Nat)} : sq (some (some [], k)) f = f k := by
  show (match f k with
    | none => none
    | some (none, k1) => some (none, k1)
    | some (some es1, k1) => some (some ([] ++ es1), k1)) = f k
  generalize f k = z
  match z with
  | none => rfl
  | some (none, _) => rfl
  | some (some _, _) => rfl
