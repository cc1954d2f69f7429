/-! ## Pure: the whole second pass against the class -/
theorem P2_op {Z g ps vs : Nat → Nat} {K r p o : Nat} {M0 : gMem} (W : CWd Z g ps vs K r p o M0) {m t : Nat} {D : gMem} {pre : List (Nat × Nat)} {k i c h h1 : Nat} {q q1 : Nat × Nat × Nat × Nat} {C : gMem} (CC : CI r o M0 C) (R : RAp Z vs r o m t pre k q C D) (hA : aA c q = some q1) (hH : hC c h = some h1) (tk : ¬ tkC c = true) (hE : c < 45 → (ceL pre).length < 400) : RAp Z vs r o m t (pre ++ [(c, i)]) k q1 (stp2 Z r p o (c, i) C) D := sorry

theorem M2_9 {m t j j' : Nat} {D0 D : gMem} (ht : m + 7 ≤ t) (h : M2I m t (wI D0 m 9 (nI j)) D) : M2I m t (wI D0 m 9 (nI j')) (wI D m 9 (nI j')) := sorry

theorem RA_9 {Z vs : Nat → Nat} {r o m t k k' : Nat} {pre : List (Nat × Nat)} {q : Nat × Nat × Nat × Nat} {C D : gMem} {v : Int32} (ht : m + 7 ≤ t) (R : RAp Z vs r o m t pre k q C D) (hk : k ≤ k') : RAp Z vs r o m t pre k' q C (wI D m 9 v) := sorry
