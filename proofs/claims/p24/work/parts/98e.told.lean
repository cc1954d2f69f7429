/-! ## Pure: the reference's second pass: what it looks up -/
def PB (m t : Nat) (M : gMem) : Prop := MB m t M ∧ mR M m 8 = some (m + 6) ∧ mT M (m + 6) = 20 ∧ mL M (m + 6) = 401
def M2I (m t : Nat) (M0 M : gMem) : Prop :=
  (mT M = mT M0 ∧ mL M = mL M0 ∧ mN M = mN M0 ∧ mR M = mR M0 ∧ mJ M = mJ M0) ∧ (∀ a, a ≠ m → a ≠ m + 6 → (a < t ∨ t + 11 ≤ a) → mI M a = mI M0 a) ∧ (∀ j, mI M m j = mI M0 m j) ∧ ∀ j, j ≠ 0 → j ≠ 3 → j ≠ 4 → j ≠ 8 → j ≠ 11 → mI M t j = mI M0 t j
theorem M2_B {m t : Nat} {M0 M : gMem} (B : PB m t M0) (C : M2I m t M0 M) : PB m t M := by
  obtain ⟨⟨h1, h2, -, h4, -⟩, -⟩ := C
  unfold PB MB
  rw [h1, h2, h4]
  exact B
theorem M2_w {m t a j : Nat} {v : Int32} {M0 M : gMem} (ht : m + 7 ≤ t) (C : M2I m t M0 M) (h : (a = m ∧ 1 = 0) ∨ a = m + 6 ∨ (t < a ∧ a < t + 11) ∨ (a = t ∧ (j = 0 ∨ j = 3 ∨ j = 4 ∨ j = 8 ∨ j = 11))) : M2I m t M0 (wI M a j v) := by
  obtain ⟨h1, h2, h3, h4⟩ := C
  refine ⟨h1, fun b b1 b2 b3 => ?_, fun i => ?_, fun i i1 i2 i3 i4 i5 => ?_⟩
  · rw [← h2 b b1 b2 b3]
    funext i
    exact up2_ne (.inl (by omega))
  · rw [← h3 i]
    exact up2_ne (by omega)
  · rw [← h4 i i1 i2 i3 i4 i5]
    exact up2_ne (by omega)
/-- the search through the tokens i, i + 1, .. of d -/
def tdS (ro vs : Nat → Nat) (w v : Nat) : Nat → Nat → Nat → Option Nat
  | 0, _, _ => none
  | d + 1, c, i => if ro i = w then (if vs i = v then some c else tdS ro vs w v d (c + 1) (i + 1)) else tdS ro vs w v d c (i + 1)
theorem tdS_lt {ro vs : Nat → Nat} {w v : Nat} : ∀ {d c i k : Nat}, tdS ro vs w v d c i = some k → k < c + d
  | 0, _, _, _, h => by cases h
  | d + 1, c, i, k, h => by
    rw [tdS] at h
    by_cases e : ro i = w
    · rw [if_pos e] at h
      by_cases e2 : vs i = v
      · rw [if_pos e2] at h; cases h; omega
      · rw [if_neg e2] at h; have := tdS_lt h; omega
    · rw [if_neg e] at h; have := tdS_lt h; omega
def tdV (x : Option Nat) : Int32 := match x with | some c => nI c | none => -1
