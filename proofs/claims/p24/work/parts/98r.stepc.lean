/-! ## Pure: one event more: signs of a sum, ends of tests and sums -/
theorem RV_s {Z vs : Nat → Nat} {o m F G k k' c i : Nat} {E : List (Nat × Nat)} {C C' D D' : gMem} (R : RV Z vs o m F G E k C D) (hk : k ≤ k') (c1 : mI C' (o + 5) 0 = nI (E.length + 1)) (c2 : ∀ s, s ≠ E.length → mI C' (o + 7) s = mI C (o + 7) s) (c3 : ∀ s, s ≠ E.length → mR C' (o + 6) s = mR C (o + 6) s) (c4 : mR C' (o + 6) E.length = some (Z c)) (d : ∀ j, j < k → mI D' (m + 6) j = mI D (m + 6) j) (e1 : (c = 2 ∨ c = 18) → i < k' ∧ ∃ j, j < G ∧ mI C' (o + 7) E.length = nI j ∧ mI D' (m + 6) i = nI j) (e2 : (c = 4 ∨ c = 16 ∨ c = 17 ∨ c = 19) → i < k' ∧ ∃ j, j < F ∧ mI C' (o + 7) E.length = nI j ∧ mI D' (m + 6) i = nI j) (e3 : c = 41 → mI C' (o + 7) E.length = nI (vs i)) : RV Z vs o m F G (E ++ [(c, i)]) k' C' D' := sorry

theorem RP_x {vs : Nat → Nat} {r o t F G x x' : Nat} {L : List Nat} {C D : gMem} (h : RP vs r o t F G L x C D) (h1 : x ≠ 1) (h2 : 3 ≤ x → 3 ≤ x') (h3 : 1 ≤ x' → 1 ≤ x) : RP vs r o t F G L x' C D := sorry

theorem RO_x {o t F G n x x' : Nat} {C D : gMem} (h : RO o t F G n x C D) (h2 : 2 ≤ x' → 2 ≤ x) (h3 : 3 ≤ x' → 3 ≤ x) (h1 : 1 ≤ x ↔ 1 ≤ x') : RO o t F G n x' C D := sorry

/-- the state of a pact behind a sign -/
theorem RP_c {vs : Nat → Nat} {r o t F G x : Nat} {L : List Nat} {C D : gMem} (h : RP vs r o t F G L x C D) (h1 : x ≠ 1) : RP vs r o t F G L (if x = 2 then 4 else x) C D := sorry

/-- a sign is added -/
theorem ad_x {Z : Nat → Nat} {o c n : Nat} {v : Int32} {Y : gMem} (h : mI Y (o + 5) 0 = nI n) (hn : n < 400) : (∀ a k, a ≠ o + 7 → (a ≠ o + 5 ∨ k ≠ 0) → mI (adM Z o c v Y) a k = mI Y a k) ∧ mI (adM Z o c v Y) (o + 5) 0 = nI (n + 1) ∧ mI (adM Z o c v Y) (o + 7) n = v ∧ (∀ s, s ≠ n → mI (adM Z o c v Y) (o + 7) s = mI Y (o + 7) s) ∧ mR (adM Z o c v Y) (o + 6) n = some (Z c) ∧ (∀ a s, (a ≠ o + 6 ∨ s ≠ n) → mR (adM Z o c v Y) a s = mR Y a s) ∧ mJ (adM Z o c v Y) = mJ Y := sorry

/-- a sign without a token of its own -/
theorem N_op {Z g ps vs : Nat → Nat} {K r p o : Nat} {M0 : gMem} (W : CWd Z g ps vs K r p o M0) {m t : Nat} {D : gMem} {L1 L2 L3 : List Nat} {E : List (Nat × Nat)} {nO k : Nat} {q : Nat × Nat × Nat × Nat} {C : gMem} (CC : CI r o M0 C) (R : RA Z vs r o m t L1 L2 L3 E nO k q C D) {i : Nat} {c : Nat} (hE : E.length < 400) (hc : c = 15 ∨ c = 44 ∨ (20 ≤ c ∧ c ≤ 24) ∨ (31 ≤ c ∧ c ≤ 39)) (hb : q.2.2.2 ≠ 1) : RA Z vs r o m t L1 L2 L3 (E ++ [(c, i)]) nO k (q.1, q.2.1, q.2.2.1, if q.2.2.2 = 2 then 4 else q.2.2.2) (stp2 Z r p o (c, i) C) D := sorry

theorem N_end {Z g ps vs : Nat → Nat} {K r p o : Nat} {M0 : gMem} (W : CWd Z g ps vs K r p o M0) {m t : Nat} {D : gMem} {L1 L2 L3 : List Nat} {E : List (Nat × Nat)} {nO k : Nat} {q : Nat × Nat × Nat × Nat} {C : gMem} (CC : CI r o M0 C) (R : RA Z vs r o m t L1 L2 L3 E nO k q C D) {i : Nat} {a0 k0 : Nat} {w : Int32} {x2 x3 : Nat} (ha : (o + 50 ≤ a0 ∧ a0 < o + 74 ∧ k0 = 3) ∨ (o + 74 ≤ a0 ∧ a0 < o + 86 ∧ k0 = 2 ∧ (a0 - o) % 2 = 0)) (hO : ∀ C, RO o t L2.length L1.length nO q.2.2.1 C D → RO o t L2.length L1.length nO x2 C D) (hP : ∀ C, RP vs r o t L2.length L1.length L3 q.2.2.2 C D → RP vs r o t L2.length L1.length L3 x3 C D) : RA Z vs r o m t L1 L2 L3 E nO k (q.1, q.2.1, x2, x3) (wI (at' r i C) a0 k0 w) D := sorry

/-- the end of a test, of a sum -/
theorem N_64 {Z g ps vs : Nat → Nat} {K r p o : Nat} {M0 : gMem} (W : CWd Z g ps vs K r p o M0) {m t : Nat} {D : gMem} {L1 L2 L3 : List Nat} {E : List (Nat × Nat)} {nO k : Nat} {q : Nat × Nat × Nat × Nat} {C : gMem} (CC : CI r o M0 C) (R : RA Z vs r o m t L1 L2 L3 E nO k q C D) {i : Nat} {c : Nat} (hc : c = 64 ∨ c = 66) (hb : q.2.2.1 = 3) : RA Z vs r o m t L1 L2 L3 E nO k (q.1, q.2.1, 4, q.2.2.2) (stp2 Z r p o (c, i) C) D := sorry

theorem N_65 {Z g ps vs : Nat → Nat} {K r p o : Nat} {M0 : gMem} (W : CWd Z g ps vs K r p o M0) {m t : Nat} {D : gMem} {L1 L2 L3 : List Nat} {E : List (Nat × Nat)} {nO k : Nat} {q : Nat × Nat × Nat × Nat} {C : gMem} (CC : CI r o M0 C) (R : RA Z vs r o m t L1 L2 L3 E nO k q C D) {i : Nat} (hb : q.2.2.2 = 3) : RA Z vs r o m t L1 L2 L3 E nO k (q.1, q.2.1, q.2.2.1, 4) (stp2 Z r p o (65, i) C) D := sorry
