/-! ## Pure: one event more: names that are known -/
theorem bd_id {y : Option (Int32 × gMem)} : (bd y fun r M => some (r, M)) = y := by
  match y with
  | none => rfl
  | some (r, M) => rfl
theorem pig : ∀ (F n : Nat) (f : Nat → Nat), (∀ k, k < n → f k < F) → (∀ j k, j < k → k < n → f j ≠ f k) → n ≤ F
  | 0, n, f, h1, _ => by
    by_cases c : n = 0
    · omega
    · have := h1 0 (by omega); omega
  | F + 1, n, f, h1, h2 => by
    by_cases c : ∃ k0, k0 < n ∧ f k0 = F
    · obtain ⟨k0, k1, k2⟩ := c
      have := pig F (n - 1) (fun k => f (if k < k0 then k else k + 1)) (fun k hk => by
        show f (if k < k0 then k else k + 1) < F
        by_cases z : k < k0
        · rw [if_pos z]
          have a := h1 k (by omega)
          have b := h2 k k0 z k1
          rw [k2] at b
          omega
        · rw [if_neg z]
          have a := h1 (k + 1) (by omega)
          have b := h2 k0 (k + 1) (by omega) (by omega)
          rw [k2] at b
          omega) (fun j k hj hk => by
        show f (if j < k0 then j else j + 1) ≠ f (if k < k0 then k else k + 1)
        by_cases z : k < k0
        · rw [if_pos z, if_pos (by omega)]; exact h2 j k hj (by omega)
        · rw [if_neg z]
          by_cases y : j < k0
          · rw [if_pos y]; exact h2 j (k + 1) (by omega) (by omega)
          · rw [if_neg y]; exact h2 (j + 1) (k + 1) (by omega) (by omega))
      omega
    · have := pig F n f (fun k hk => by
        have a := h1 k hk
        have b : f k ≠ F := fun z => c ⟨k, hk, z⟩
        omega) h2
      omega
