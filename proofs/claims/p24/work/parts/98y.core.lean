/-! ## Pure: both readings of a text that was cut -/
theorem ms_fr {vs : Nat → Nat} {m t c i a k : Nat} {P : gMem} (ht : m + 7 ≤ t) (h1 : a ≠ m + 5) (h2 : a < t + 11 ∨ t + 17 ≤ a) (h3 : a ≠ t ∨ (k ≠ 15 ∧ k ≠ 16 ∧ k ≠ 22 ∧ k ≠ 24)) : mI (mst1 vs m t c i P) a k = mI P a k := by
  have pu : ∀ X v, mI (puM t v X) a k = mI X a k := fun X v => by
    unfold puM
    rw [wI_o (by omega), wI_o (.inl (by omega))]
  have ro : ∀ X v, mI (roM m i v X) a k = mI X a k := fun X v => wI_o (.inl h1)
  have en : ∀ w, mI (nmE m t c w i P) a k = mI P a k := fun w => by
    unfold nmE
    rw [ro, pu, wI_o (by omega), wI_o (.inl (by omega)), pu]
  unfold mst1
  by_cases h : c = 16 ∨ c = 17 ∨ c = 4 ∨ c = 19
  · rw [if_pos h, en]
  rw [if_neg h]; clear h
  by_cases h : c = 2 ∨ c = 18
  · rw [if_pos h, en]
  rw [if_neg h]; clear h
  by_cases h : c = 41
  · rw [if_pos h, pu, pu]
  rw [if_neg h]; clear h
  by_cases h : c < 45
  · rw [if_pos h, pu]
  rw [if_neg h]; clear h
  by_cases h : c = 53
  · rw [if_pos h, wI_o (by omega), wI_o (.inl (by omega)), ro]
  rw [if_neg h]; clear h
  by_cases h : c = 54
  · rw [if_pos h, wI_o (.inl (by omega)), wI_o (by omega), ro]
  rw [if_neg h]; clear h
  by_cases h : c = 64 ∨ c = 66
  · rw [if_pos h, wI_o (.inl (by omega))]
  rw [if_neg h]; clear h
  by_cases h : c = 65
  · rw [if_pos h, wI_o (.inl (by omega))]
  rw [if_neg h]; clear h
  by_cases h : 1000 ≤ c
  · rw [if_pos h, ro]
  rw [if_neg h]; clear h
  by_cases h : 50 ≤ c
  · rw [if_pos h, ro]
  rw [if_neg h]
theorem mr_fr {vs : Nat → Nat} {m t a k : Nat} (ht : m + 7 ≤ t) (h1 : a ≠ m + 5) (h2 : a < t + 11 ∨ t + 17 ≤ a) (h3 : a ≠ t ∨ (k ≠ 15 ∧ k ≠ 16 ∧ k ≠ 22 ∧ k ≠ 24)) : ∀ (es : List (Nat × Nat)) (P : gMem), mI (mrn vs m t es P) a k = mI P a k
  | [], P => rfl
  | x :: r, P => by rw [mrn, mr_fr ht h1 h2 h3 r, ms_fr ht h1 h2 h3]
theorem RA_C {Z vs : Nat → Nat} {r o m t k nO : Nat} {L1 L2 L3 : List Nat} {E : List (Nat × Nat)} {q : Nat × Nat × Nat × Nat} {C C' D : gMem} (ho : o + 86 ≤ r) (R : RA Z vs r o m t L1 L2 L3 E nO k q C D) (h1 : ∀ a j, (a ≠ r ∨ j ≠ 6) → mI C' a j = mI C a j) (h2 : mJ C' = mJ C) (h3 : mR C' = mR C) : RA Z vs r o m t L1 L2 L3 E nO k q C' D := by
  obtain ⟨h7, RG1, RF1, RO1, RP1, RV1⟩ := R
  exact ⟨(h1 _ _ (.inr (by decide))).trans h7, RG_fr RG1 (fun a k h => h1 a k (by omega)) (fun j => by rw [h2]) (fun _ _ _ => rfl), RF_fr RF1 (fun a k h => h1 a k (by omega)) (fun j => by rw [h2]) (fun _ _ _ => rfl), RO_fr RO1 (Nat.le_refl _) (Nat.le_refl _) (fun a k h => h1 a k (by omega)) (fun _ _ _ => rfl), RP_fr RP1 (Nat.le_refl _) (Nat.le_refl _) (fun a k h => h1 a k (by omega)) (fun j => by rw [h2]) (fun _ _ _ => rfl), RV_fr RV1 (Nat.le_refl _) (Nat.le_refl _) (Nat.le_refl _) (fun a k h => h1 a k (by omega)) (fun j => by rw [h3]) (fun _ _ => rfl)⟩
theorem RT_C {ef : Nat → Nat × Nat} {vs : Nat → Nat} {o t nO nP n x y h : Nat} {C C' P P' : gMem} (T : RT ef vs o t nO nP n x y h C P) (hO : nO ≤ 24) (hP : nP ≤ 6) (h1 : ∀ a j, o + 50 ≤ a → a < o + 86 → mI C' a j = mI C a j) (h2 : mI P' t 15 = mI P t 15 ∧ mI P' t 16 = mI P t 16 ∧ mI P' t 22 = mI P t 22 ∧ mI P' t 24 = mI P t 24) (h3 : ∀ a j, t + 11 ≤ a → a < t + 17 → mI P' a j = mI P a j) : RT ef vs o t nO nP n x y h C' P' := by
  obtain ⟨⟨t1, t2⟩, t3, t4, t5⟩ := T
  exact ⟨⟨h2.1.trans t1, h2.2.1.trans t2⟩, T3_fr t3 h2.2.2 (fun k => ⟨h3 _ _ (by omega) (by omega), h3 _ _ (by omega) (by omega)⟩), T1_fr t4 ⟨fun y => y, fun y => y, fun y => y, fun y => ⟨y, rfl⟩⟩ (fun i k hi _ => h1 _ _ (by omega) (by omega)) (fun i hi => ⟨h3 _ _ (by omega) (by omega), h3 _ _ (by omega) (by omega)⟩), T2_fr t5 ⟨fun y => y, fun y => y, fun y => .inl y, fun y => ⟨y, rfl⟩⟩ (fun i k hi _ => h1 _ _ (by omega) (by omega)) (fun i hi => ⟨h3 _ _ (by omega) (by omega), h3 _ _ (by omega) (by omega)⟩)⟩
/-- rows of the text are the same -/
def FRX (m : Nat) (N X : gMem) : Prop := (mT X = mT N ∧ mL X = mL N ∧ mR X = mR N) ∧ ∀ a, (a = m + 1 ∨ a = m + 3 ∨ a = m + 4) → mI X a = mI N a
/-- where the reference writes as it reads -/
def NFr (m t : Nat) (N Y : gMem) : Prop := (mT Y = mT N ∧ mL Y = mL N ∧ mN Y = mN N ∧ mR Y = mR N ∧ mJ Y = mJ N) ∧ (∀ a, a ≠ m → a ≠ m + 5 → a ≠ m + 6 → (a < t ∨ t + 17 ≤ a) → mI Y a = mI N a) ∧ ∀ j, j ≠ 3 → j ≠ 9 → j ≠ 10 → mI Y m j = mI N m j
/-- a new shore: nobody has fished -/
def NEWA (A : Nat → Nat → Int32) (Y : gMem) (t F G np : Nat) : Prop :=
  (∀ g, g < G → A (18 + 2 * g) 1 = 0 ∧ A (18 + 2 * g) 2 = 0 ∧ ∀ k, k < 5 → A (19 + 2 * g) (k + 1) = mI Y (t + 2) (5 * g + k)) ∧ (∀ f, f < F → A (34 + 2 * f) 1 = A (34 + 2 * f) 0 ∧ (∀ k, 4 ≤ k → k < 10 → A (34 + 2 * f) k = if k = 6 then -1 else 0) ∧ ∀ k, k < 8 → A (35 + 2 * f) k = 0) ∧ (∀ p, p < np → ∀ k, 5 ≤ k → k < 8 → A (74 + 2 * p) k = 0) ∧ ∀ i, 5 * G ≤ i → mI Y (t + 2) i = 0

