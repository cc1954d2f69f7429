/-! ## Pure: both are taught: the reference -/
/-- the reference's object at m, what is told to it at t -/
def MIv (m t n : Nat) (T : Nat → Nat) (M : gMem) : Prop :=
  MP m n T M (mI M) (mR M) ∧ (mR M m 11 = some t ∧ mR M m 13 = some (m + 24) ∧ mR M m 14 = some (m + 41)) ∧ (LSt m t (m + 24) M ∧ LSt m t (m + 41) M) ∧ (m + 7 ≤ t ∧ t + 17 ≤ mN M ∧ m + 58 ≤ mN M ∧ (t = m + 7 ∨ m + 58 ≤ t))
