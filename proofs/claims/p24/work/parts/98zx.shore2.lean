/-! ## Pure: a Shore is made, whole -/
theorem sh_l115 {Z : Nat → Nat} {o : Nat} {w : Nat → Option Nat} {M : gMem} {N0 : Nat} (hN : N0 = o + 1) : ∀ j, j < 8 → bb_X7_init_115 N0 Z (shS o (18 + 2 * j) w (fun x => x < 18 + 2 * j) M) o (nI j) = some (.inl (shS o (18 + 2 * (j + 1)) w (fun x => x < 18 + 2 * (j + 1)) M, nI (j + 1))) := sorry

theorem sh_l142 {Z : Nat → Nat} {o : Nat} {w : Nat → Option Nat} {M : gMem} {N0 : Nat} (hN : N0 = o + 1) : ∀ j, j < 8 → bb_X7_init_142 N0 Z (shS o (34 + 2 * j) w (fun x => x < 34 + 2 * j) M) o (nI j) = some (.inl (shS o (34 + 2 * (j + 1)) w (fun x => x < 34 + 2 * (j + 1)) M, nI (j + 1))) := sorry

theorem sh_l169 {Z : Nat → Nat} {o : Nat} {w : Nat → Option Nat} {M : gMem} {N0 : Nat} (hN : N0 = o + 1) : ∀ j, j < 24 → bb_X7_init_169 N0 Z (shS o (50 + 1 * j) w (fun x => x < 50 + 1 * j) M) o (nI j) = some (.inl (shS o (50 + 1 * (j + 1)) w (fun x => x < 50 + 1 * (j + 1)) M, nI (j + 1))) := sorry

theorem sh_l196 {Z : Nat → Nat} {o : Nat} {w : Nat → Option Nat} {M : gMem} {N0 : Nat} (hN : N0 = o + 1) : ∀ j, j < 6 → bb_X7_init_196 N0 Z (shS o (74 + 2 * j) w (fun x => x < 74 + 2 * j) M) o (nI j) = some (.inl (shS o (74 + 2 * (j + 1)) w (fun x => x < 74 + 2 * (j + 1)) M, nI (j + 1))) := sorry

/-- a new Shore at the next address -/
theorem X7_new {Z : Nat → Nat} {M : gMem} {o : Nat} (e : mN M = o) : ∃ w, f_X7_init Z (nW M 7 0) o = some ((), shS o 86 w (fun x => x < 86) M) := sorry
