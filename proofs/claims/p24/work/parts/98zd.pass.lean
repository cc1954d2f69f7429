/-! ## Pure: pass on both sides -/
theorem RS_sto {A st : Nat → Nat → Int32} {F G np : Nat} (hF : F ≤ 8) (R : RS A st F G np) : sumN (st 5) (lenS 5) = sumN (fun i => A (34 + 2 * i) 4) F := by
  show sumN (st 5) 8 = _
  rw [sumN_ext (n := F) 8 hF fun i i1 i2 => (R.2.2.2.2.2.1 i i1 i2).1]
  exact sumN_c F fun i hi => (R.1.2.2.2 i hi).2.1
