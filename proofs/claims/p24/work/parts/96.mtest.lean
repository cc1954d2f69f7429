/-! ## Pure: the reference's tests -/
theorem mQk_tk {m t d k : Nat} {M0 M : gMem} (ht : m + 7 ≤ t) (Q : mQk m t d M0 M k) : mQk m t d M0 (tk' m (k + 1) M) (k + 1) := by
  obtain ⟨C, h9, h10, ⟨L, l1, l2⟩, ⟨n, n1, n2⟩⟩ := Q
  refine ⟨MI_w C (.inl (by omega)) ht, wI_e _ _ _ _, ?_, ⟨L, by omega, ?_⟩, ⟨n, by omega, ?_⟩⟩
  · unfold tk'; rw [wI_o (.inr (by omega))]; exact h10
  · unfold tk'; rw [wI_o (.inl (by omega))]; exact l2
  · unfold tk'; rw [wI_o (.inl (by omega))]; exact n2
theorem si2_tk {m k : Nat} {A : gMem} : si2 m (tk' m k A) A := fun a b => by
  unfold td' tk'
  rw [wI_2]
theorem WP_P {g : Nat → Nat} {n j k d : Nat} : WP k 0 0 (Px g n j k d) := by
  have := WP_Px (g := g) n j k d
  by_cases c : j = 3
  · rw [if_pos c] at this; exact this
  · rw [if_neg c] at this; exact this
