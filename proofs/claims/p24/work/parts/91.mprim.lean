/-! ## Pure: the reference's reader at m: what it reads is told at t; its small methods -/
def MB (m t : Nat) (M : gMem) : Prop :=
  (mT M m = 13 ∧ mR M m 4 = some (m + 2) ∧ mR M m 7 = some (m + 5) ∧ mR M m 12 = some t ∧ mT M (m + 2) = 20 ∧ mL M (m + 2) = 401 ∧ mT M (m + 5) = 20 ∧ mL M (m + 5) = 401) ∧
  (mT M t = 12 ∧ (∀ k, k < 25 → 0 < tdR k → mR M t k = some (t + tdR k)) ∧ ∀ j, 1 ≤ j → j < 17 → mT M (t + j) = 20 ∧ mL M (t + j) = lenD j) ∧ m + 7 ≤ t
/-- the world that the reference reads in -/
def MWd (g : Nat → Nat) (K m t : Nat) (M : gMem) : Prop :=
  MB m t M ∧ (∀ i, i ≤ K → mI M (m + 2) i = nI (mk (g i))) ∧ (∀ i, g i < 45) ∧ K ≤ 400 ∧ ∀ i, i ≤ K → g i < 42 → i + 1 ≤ K
def MI (m t : Nat) (M0 M : gMem) : Prop :=
  (mT M = mT M0 ∧ mL M = mL M0 ∧ mN M = mN M0 ∧ mR M = mR M0 ∧ mJ M = mJ M0) ∧ (∀ a, a ≠ m → a ≠ m + 5 → (a < t ∨ t + 17 ≤ a) → mI M a = mI M0 a) ∧ ∀ j, j ≠ 9 → j ≠ 10 → mI M m j = mI M0 m j
theorem MI_B {m t : Nat} {M0 M : gMem} (B : MB m t M0) (C : MI m t M0 M) : MB m t M := by
  obtain ⟨⟨h1, h2, -, h4, -⟩, -⟩ := C
  unfold MB
  rw [h1, h2, h4]
  exact B
theorem MI_T {g : Nat → Nat} {K m t : Nat} {M0 M : gMem} (W : MWd g K m t M0) (C : MI m t M0 M) : ∀ i, i ≤ K → mI M (m + 2) i = nI (mk (g i)) := fun i hi => by
  have := W.1.2.2
  rw [C.2.1 (m + 2) (by omega) (by omega) (by omega)]
  exact W.2.1 i hi
theorem MI_w {m t a j : Nat} {v : Int32} {M0 M : gMem} (C : MI m t M0 M) (h : (a = m ∧ (j = 9 ∨ j = 10)) ∨ a = m + 5 ∨ (t ≤ a ∧ a < t + 17)) (ht : m + 7 ≤ t) : MI m t M0 (wI M a j v) := by
  obtain ⟨h1, h2, h3⟩ := C
  refine ⟨h1, fun b b1 b2 b3 => ?_, fun i i1 i2 => ?_⟩
  · rw [← h2 b b1 b2 b3]
    funext i
    exact up2_ne (.inl (by omega))
  · rw [← h3 i i1 i2]
    exact up2_ne (by omega)
def tk' (m k : Nat) (M : gMem) : gMem := wI M m 9 (nI k)
theorem mk_i : ∀ x, x < 45 → (mk x < 1000) ∧ (∀ c, c < 45 → (c ≤ 24 ∨ c = 40 ∨ c = 41) → (mk x = c ↔ x = c)) ∧ (mk x = 900 ↔ x = 42) ∧ (mk x = 300 ↔ x = 38) ∧ (mk x = 301 ↔ x = 39) := by decide +kernel
theorem mk_s : ∀ x, x < 45 → (mk x = 90 ↔ x = 25) ∧ (mk x = 91 ↔ x = 26) ∧ (mk x = 141 ↔ x = 27) ∧ (mk x = 143 ↔ x = 28) ∧ (mk x = 109 ↔ x = 29) ∧ (mk x = 94 ↔ x = 30) ∧ (mk x = 93 ↔ x = 31) ∧ (mk x = 95 ↔ x = 32) ∧ (mk x = 92 ↔ x = 33) ∧ (mk x = 97 ↔ x = 34) ∧ (mk x = 110 ↔ x = 35) ∧ (mk x = 112 ↔ x = 36) ∧ (mk x = 111 ↔ x = 37) := by decide +kernel
def roM (m k : Nat) (v : Int32) (M : gMem) : gMem := wI M (m + 5) k v
def puM (t : Nat) (v : Int32) (M : gMem) : gMem := wI (wI M (t + 15) (cn M t 22) v) t 22 (nI (cn M t 22 + 1))
/-- a name behind a word: the word, the place of the operand, the token -/
def nmM (m t : Nat) (v w : Int32) (k : Nat) (M : gMem) : gMem :=
  roM m (k + 1) w (puM t (nI (k + 1)) (wI (wI (tk' m (k + 1) (puM t v M)) (t + 16) (cn M t 24) (nI (cn M t 22 + 1))) t 24 (nI (cn M t 24 + 1))))
