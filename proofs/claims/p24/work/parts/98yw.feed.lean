/-! ## Pure: feed -/
def fdC (p n : Nat) (T : Nat → Nat) (M : gMem) : Nat → gMem
  | 0 => M
  | j + 1 => wI (wI (fdC p n T M j) (p + 1) (n + j) (sB (T (n + j)))) p 0 (nI (n + j + 1))
theorem fdC_f {p n : Nat} {T : Nat → Nat} {M : gMem} (h0 : mI M p 0 = nI n) : ∀ j, (mT (fdC p n T M j) = mT M ∧ mL (fdC p n T M j) = mL M ∧ mR (fdC p n T M j) = mR M ∧ mN (fdC p n T M j) = mN M) ∧ mI (fdC p n T M j) p 0 = nI (n + j) ∧ (∀ a, a ≠ p → a ≠ p + 1 → mI (fdC p n T M j) a = mI M a) ∧ ∀ q, mI (fdC p n T M j) (p + 1) q = if n ≤ q ∧ q < n + j then sB (T q) else mI M (p + 1) q := sorry

theorem ap_step {p n j s : Nat} {T : Nat → Nat} {M : gMem} {w : Int32} (t9 : mT M p = 9) (r1 : mR M p 1 = some (p + 1)) (t22 : mT M (p + 1) = 22) (l : mL M (p + 1) = 2000) (h0 : mI M p 0 = nI n) (hj : n + j < 2000) (hs : s = 0 ∨ s = 8 ∨ s = 16 ∨ s = 24) (hT : T (n + j) = byN w s) : bb_X10_append_3 (fdC p n T M j) p w (nI s) = some (.inl (fdC p n T M (j + 1), nI s + (-8 : Int32))) := sorry

theorem ap_all {p n j : Nat} {T : Nat → Nat} {M : gMem} {w : Int32} (t9 : mT M p = 9) (r1 : mR M p 1 = some (p + 1)) (t22 : mT M (p + 1) = 22) (l : mL M (p + 1) = 2000) (h0 : mI M p 0 = nI n) (hj : n + j + 4 ≤ 2000) (hT : ∀ k, k < 4 → T (n + j + k) = byN w (24 - 8 * k)) : f_X10_append (fdC p n T M j) p w = some ((), fdC p n T M (j + 4)) := sorry

/-- the reference's tape -/
def fdM (m n : Nat) (T : Nat → Nat) (M : gMem) : Nat → gMem
  | 0 => M
  | j + 1 => wI (fdM m n T M j) (m + 1) (n + j) (nI (T (n + j)))
theorem fdM_f {m n : Nat} {T : Nat → Nat} {M : gMem} : ∀ j, (mT (fdM m n T M j) = mT M ∧ mL (fdM m n T M j) = mL M ∧ mR (fdM m n T M j) = mR M ∧ mN (fdM m n T M j) = mN M) ∧ (∀ a, a ≠ m + 1 → mI (fdM m n T M j) a = mI M a) ∧ ∀ q, mI (fdM m n T M j) (m + 1) q = if n ≤ q ∧ q < n + j then nI (T q) else mI M (m + 1) q := sorry

theorem sh_lit : ∀ j : Nat, j < 20 → ((24 : Int32) - ((8 : Int32) * (nI j - nI j / (4 : Int32) * (4 : Int32)))) &&& 31 = nI (24 - 8 * (j % 4)) &&& 31 := sorry
