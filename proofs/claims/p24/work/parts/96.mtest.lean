/-! ## Pure: the reference's tests -/
theorem mQk_tk {m t d k : Nat} {M0 M : gMem} (ht : m + 7 ≤ t) (Q : mQk m t d M0 M k) : mQk m t d M0 (tk' m (k + 1) M) (k + 1) := sorry

theorem si2_tk {m k : Nat} {A : gMem} : si2 m (tk' m k A) A := sorry

theorem WP_P {g : Nat → Nat} {n j k d : Nat} : WP k 0 0 (Px g n j k d) := sorry
