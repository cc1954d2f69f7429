/-! ## Pure: pass on both sides -/
theorem RS_sto {A st : Nat → Nat → Int32} {F G np : Nat} (hF : F ≤ 8) (R : RS A st F G np) : sumN (st 5) (lenS 5) = sumN (fun i => A (34 + 2 * i) 4) F := sorry
