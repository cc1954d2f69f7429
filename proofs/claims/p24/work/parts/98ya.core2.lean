/-! ## Pure: both readings of a text that was cut: the same error, or the same is told -/
theorem FRX_1 {m t : Nat} {N X Y : gMem} (ht : m + 7 ≤ t) (C : MI m t N X) (D : M2I m t X Y) : FRX m N Y := by
  obtain ⟨⟨a1, a2, a3, a4, a5⟩, a6, a7⟩ := C
  obtain ⟨⟨b1, b2, b3, b4, b5⟩, b6, b7⟩ := D
  refine ⟨⟨b1.trans a1, b2.trans a2, b4.trans a4⟩, fun a ha => ?_⟩
  rw [b6 a (by omega) (by omega) (by omega), a6 a (by omega) (by omega) (by omega)]
theorem ceL_m : ∀ {a : List (Nat × Nat)} (y : Nat × Nat), y ∈ ceL a → y.1 < 45
  | [], y, h => by cases h
  | x :: r, y, h => by
    rw [ceL] at h
    by_cases c : x.1 < 45
    · rw [if_pos c] at h
      rcases List.mem_cons.mp h with e | e
      · rw [e]; exact c
      · exact ceL_m y e
    · rw [if_neg c] at h; exact ceL_m y h
