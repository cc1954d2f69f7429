/-! ## Pure: teach, told in STv -/
theorem T_teachS {Z : Nat → Nat} {b m o o' t n kb : Nat} {T : Nat → Nat} {M : gMem} (S : STv Z b m o o' t n kb T M) (hZ : ∀ a b : Nat, a < 45 → b < 45 → Z a = Z b → a = b) : ∃ x M1 M2 o1 o1' t1, f_X11_teach Z M b = some (x, M1) ∧ f_X14_teach Z M1 m = some (x, M2) ∧ STv Z b m o1 o1' t1 0 kb T M2 ∧ mN M ≤ mN M1 ∧ mN M1 ≤ mN M2 ∧ mN M2 ≤ mN M + 25 := by
  obtain ⟨er, M1, M2, o1, o1', t1, h0, h1, h2, h3, h4, h5, h6, h7, h8, h9, h10⟩ := T_teach S.2.1 S.2.2.1 S.2.2.2.1 S.1.1 hZ
  have s0 := S.1
  exact ⟨nI er, M1, M2, o1, o1', t1, h1, h2, ⟨⟨S.1.1, by omega, by rw [(h10 _ (by omega)).1]; exact s0.2.2.1, by rw [(h10 _ (by omega)).2]; exact s0.2.2.2⟩, h3, h4, h5, h6⟩, h7, h8, h9⟩
