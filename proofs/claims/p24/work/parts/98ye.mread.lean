/-! ## Pure: the reference reads: a new Told, the cut, the rest -/
theorem symG_lt {T : Nat → Nat} {n a : Nat} : (symG T n a).1 < 45 := by
  unfold symG
  cases h2 : fndN (mt T n a 2) 45 0 with
  | some i => obtain ⟨-, i1, -⟩ := fndN_s 45 0 i h2; show i < 45; omega
  | none =>
    cases h1 : fndN (mt T n a 1) 45 0 with
    | some i => obtain ⟨-, i1, -⟩ := fndN_s 45 0 i h1; show i < 45; omega
    | none => show (43 : Nat) < 45; decide
theorem wdG_lt {T : Nat → Nat} {n a : Nat} : wdG T n a < 45 := by
  unfold wdG
  split
  · cases h : fndN (mt T n a (wEnd T n a - a)) 45 0 with
    | some i => obtain ⟨-, i1, -⟩ := fndN_s 45 0 i h; show i < 45; omega
    | none => show (40 : Nat) < 45; decide
  · decide
theorem tok_45 {T : Nat → Nat} {n i : Nat} : tok T n i < 45 := by
  unfold tok tkG nmG
  split
  · split
    · split
      · exact wdG_lt
      · split
        · split <;> decide
        · exact symG_lt
    · decide
  · decide
