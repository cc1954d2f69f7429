/-! ## Pure: the reference reads: a new Told, the cut, the rest -/
theorem symG_lt {T : Nat → Nat} {n a : Nat} : (symG T n a).1 < 45 := sorry

theorem wdG_lt {T : Nat → Nat} {n a : Nat} : wdG T n a < 45 := sorry

theorem tok_45 {T : Nat → Nat} {n i : Nat} : tok T n i < 45 := sorry
