/-! ## Pure: what the class has read and what the reference has read: the relation -/
def RG (vs : Nat → Nat) (r o t : Nat) (L : List Nat) (a : Nat) (C D : gMem) : Prop :=
  (NL vs (r + 1) L C ∧ mI C o 2 = nI L.length ∧ mI D t 0 = nI L.length ∧ a ≤ 6 ∧ (1 ≤ a → 1 ≤ L.length ∧ mI D t 3 = nI (a - 1))) ∧
  (∀ g, g < L.length → mI C (o + (18 + 2 * g)) 0 = mI D (t + 1) g ∧ mI C (o + (18 + 2 * g)) 1 = 0 ∧ mI C (o + (18 + 2 * g)) 2 = 0 ∧ ∀ k, k < 5 → mI C (o + (19 + 2 * g)) (k + 1) = mI D (t + 2) (5 * g + k) ∧ ∃ n, n ≤ 99 ∧ mI D (t + 2) (5 * g + k) = nI n) ∧
  ∀ g, L.length ≤ g → mI D (t + 1) g = 0 ∧ ∀ k, k < 5 → mI D (t + 2) (5 * g + k) = 0
def RF (vs : Nat → Nat) (r o t : Nat) (L : List Nat) (b : Nat) (C D : gMem) : Prop :=
  (NL vs (r + 3) L C ∧ mI C o 3 = nI L.length ∧ mI D t 4 = nI L.length ∧ b ≤ 4 ∧ (1 ≤ b → 1 ≤ L.length)) ∧
  (∀ f, f < L.length → mI C (o + (34 + 2 * f)) 0 = mI D (t + 3) f ∧ mI C (o + (34 + 2 * f)) 1 = mI D (t + 3) f ∧ mI C (o + (34 + 2 * f)) 2 = mI D (t + 4) f ∧ mI C (o + (34 + 2 * f)) 3 = mI D (t + 5) f ∧ (∀ k, 4 ≤ k → k < 10 → mI C (o + (34 + 2 * f)) k = if k = 6 then -1 else 0) ∧ (∀ k, k < 8 → mI C (o + (35 + 2 * f)) k = 0) ∧ (∃ n, n ≤ 5 ∧ (1 ≤ n ∨ (f + 1 = L.length ∧ b = 1)) ∧ mI D (t + 3) f = nI n) ∧ (∃ n, n ≤ 99 ∧ mI D (t + 4) f = nI n) ∧ ∃ n, n ≤ 40 ∧ mI D (t + 5) f = nI n) ∧
  ∀ f, L.length ≤ f → mI D (t + 3) f = 0 ∧ mI D (t + 4) f = 0 ∧ mI D (t + 5) f = 0
def RO (o t F G n x : Nat) (C D : gMem) : Prop :=
  (mI C o 4 = nI n ∧ mI D t 8 = nI n ∧ n ≤ 24 ∧ (1 ≤ x ↔ 1 ≤ n)) ∧
  ∀ i, i < n → ((i + 1 < n ∨ 2 ≤ x) → mI C (o + (50 + i)) 0 = mI D (t + 6) i ∧ ∃ f, f < F ∧ mI D (t + 6) i = nI f) ∧ ((i + 1 < n ∨ 3 ≤ x) → mI C (o + (50 + i)) 1 = mI D (t + 7) i ∧ ∃ g, g < G ∧ mI D (t + 7) i = nI g)
def RP (vs : Nat → Nat) (r o t F G : Nat) (L : List Nat) (x : Nat) (C D : gMem) : Prop :=
  (NL vs (r + 5) L C ∧ mI C o 5 = nI L.length ∧ mI D t 11 = nI L.length ∧ L.length ≤ 6 ∧ (1 ≤ x → 1 ≤ L.length)) ∧
  (∀ q, q < L.length → mI C (o + (74 + 2 * q)) 0 = mI D (t + 8) q ∧ (mI D (t + 8) q = -1 ∨ ((∃ g, g < G ∧ mI D (t + 8) q = nI g) ∧ (q + 1 < L.length ∨ 3 ≤ x))) ∧ (∀ k, 5 ≤ k → k < 8 → mI C (o + (74 + 2 * q)) k = 0) ∧ (∃ n, n ≤ 8 ∧ (1 ≤ n ∨ (q + 1 = L.length ∧ x = 1)) ∧ mI C (o + (74 + 2 * q)) 3 = nI n ∧ mI D (t + 9) q = nI n ∧ (∀ k, k < n → ∃ f, f < F ∧ mI D (t + 10) (8 * q + k) = nI f) ∧ ∀ j k, j < k → k < n → mI D (t + 10) (8 * q + j) ≠ mI D (t + 10) (8 * q + k)) ∧ ∀ k, k < 8 → mI C (o + (75 + 2 * q)) k = mI D (t + 10) (8 * q + k)) ∧
  ∀ q, L.length ≤ q → mI D (t + 9) q = 0 ∧ ∀ k, k < 8 → mI D (t + 10) (8 * q + k) = 0
def RV (Z vs : Nat → Nat) (o m F G : Nat) (E : List (Nat × Nat)) (k : Nat) (C D : gMem) : Prop :=
  mI C (o + 5) 0 = nI E.length ∧ ∀ s (h : s < E.length), mR C (o + 6) s = some (Z (E[s]).1) ∧ (((E[s]).1 = 2 ∨ (E[s]).1 = 18) → (E[s]).2 < k ∧ ∃ j, j < G ∧ mI C (o + 7) s = nI j ∧ mI D (m + 6) (E[s]).2 = nI j) ∧ (((E[s]).1 = 4 ∨ (E[s]).1 = 16 ∨ (E[s]).1 = 17 ∨ (E[s]).1 = 19) → (E[s]).2 < k ∧ ∃ j, j < F ∧ mI C (o + 7) s = nI j ∧ mI D (m + 6) (E[s]).2 = nI j) ∧ ((E[s]).1 = 41 → mI C (o + 7) s = nI (vs (E[s]).2))
theorem NL_fr {vs : Nat → Nat} {x : Nat} {L : List Nat} {C C' : gMem} (h : NL vs x L C) (h1 : mI C' x 1 = mI C x 1) (h2 : ∀ j, mJ C' (x + 1) j = mJ C (x + 1) j) : NL vs x L C' :=
  ⟨by rw [h1]; exact h.1, h.2.1, fun j hj => by rw [h2]; exact h.2.2.1 j hj, h.2.2.2⟩
theorem RG_fr {vs : Nat → Nat} {r o t a : Nat} {L : List Nat} {C C' D D' : gMem} (h : RG vs r o t L a C D) (c1 : ∀ a k, (a = o ∧ k = 2) ∨ (a = r + 1 ∧ k = 1) ∨ (o + 18 ≤ a ∧ a < o + 34) → mI C' a k = mI C a k) (cJ : ∀ j, mJ C' (r + 2) j = mJ C (r + 2) j) (d1 : ∀ a k, (a = t ∧ (k = 0 ∨ k = 3)) ∨ a = t + 1 ∨ a = t + 2 → mI D' a k = mI D a k) : RG vs r o t L a C' D' := by
  obtain ⟨⟨a1, a2, a3, a4, a5⟩, b, c⟩ := h
  have h8 := a1.2.1
  refine ⟨⟨NL_fr a1 (c1 _ _ (by omega)) cJ, by rw [c1 _ _ (by omega)]; exact a2, by rw [d1 _ _ (by omega)]; exact a3, a4, fun z => by rw [d1 _ _ (by omega)]; exact a5 z⟩, fun g hg => ?_, fun g hg => ?_⟩
  · obtain ⟨b1, b2, b3, b4⟩ := b g hg
    refine ⟨by rw [c1 _ _ (by omega), d1 _ _ (by omega)]; exact b1, by rw [c1 _ _ (by omega)]; exact b2, by rw [c1 _ _ (by omega)]; exact b3, fun k hk => ?_⟩
    rw [c1 _ _ (by omega), d1 _ _ (by omega)]
    exact b4 k hk
  · obtain ⟨b1, b2⟩ := c g hg
    refine ⟨by rw [d1 _ _ (by omega)]; exact b1, fun k hk => by rw [d1 _ _ (by omega)]; exact b2 k hk⟩
theorem RF_fr {vs : Nat → Nat} {r o t b : Nat} {L : List Nat} {C C' D D' : gMem} (h : RF vs r o t L b C D) (c1 : ∀ a k, (a = o ∧ k = 3) ∨ (a = r + 3 ∧ k = 1) ∨ (o + 34 ≤ a ∧ a < o + 50) → mI C' a k = mI C a k) (cJ : ∀ j, mJ C' (r + 4) j = mJ C (r + 4) j) (d1 : ∀ a k, (a = t ∧ k = 4) ∨ a = t + 3 ∨ a = t + 4 ∨ a = t + 5 → mI D' a k = mI D a k) : RF vs r o t L b C' D' := by
  obtain ⟨⟨a1, a2, a3, a4, a5⟩, b, c⟩ := h
  have h8 := a1.2.1
  refine ⟨⟨NL_fr a1 (c1 _ _ (by omega)) cJ, by rw [c1 _ _ (by omega)]; exact a2, by rw [d1 _ _ (by omega)]; exact a3, a4, a5⟩, fun f hf => ?_, fun f hf => ?_⟩
  · obtain ⟨b1, b2, b3, b4, b5, b6, b7⟩ := b f hf
    rw [d1 _ _ (by omega), d1 _ _ (by omega), d1 _ _ (by omega)]
    refine ⟨by rw [c1 _ _ (by omega)]; exact b1, by rw [c1 _ _ (by omega)]; exact b2, by rw [c1 _ _ (by omega)]; exact b3, by rw [c1 _ _ (by omega)]; exact b4, fun k k1 k2 => by rw [c1 _ _ (by omega)]; exact b5 k k1 k2, fun k hk => by rw [c1 _ _ (by omega)]; exact b6 k hk, b7⟩
  · rw [d1 _ _ (by omega), d1 _ _ (by omega), d1 _ _ (by omega)]
    exact c f hf
theorem RO_fr {o t F G F' G' n x : Nat} {C C' D D' : gMem} (h : RO o t F G n x C D) (hF : F ≤ F') (hG : G ≤ G') (c1 : ∀ a k, (a = o ∧ k = 4) ∨ (o + 50 ≤ a ∧ a < o + 74 ∧ k < 2) → mI C' a k = mI C a k) (d1 : ∀ a k, (a = t ∧ k = 8) ∨ a = t + 6 ∨ a = t + 7 → mI D' a k = mI D a k) : RO o t F' G' n x C' D' := by
  obtain ⟨⟨a1, a2, a3, a4⟩, b⟩ := h
  refine ⟨⟨by rw [c1 _ _ (by omega)]; exact a1, by rw [d1 _ _ (by omega)]; exact a2, a3, a4⟩, fun i hi => ?_⟩
  obtain ⟨b1, b2⟩ := b i hi
  refine ⟨fun z => ?_, fun z => ?_⟩
  · rw [c1 _ _ (by omega), d1 _ _ (by omega)]
    obtain ⟨x1, f, x2, x3⟩ := b1 z
    exact ⟨x1, f, by omega, x3⟩
  · rw [c1 _ _ (by omega), d1 _ _ (by omega)]
    obtain ⟨x1, f, x2, x3⟩ := b2 z
    exact ⟨x1, f, by omega, x3⟩
theorem RP_fr {vs : Nat → Nat} {r o t F G F' G' x : Nat} {L : List Nat} {C C' D D' : gMem} (h : RP vs r o t F G L x C D) (hF : F ≤ F') (hG : G ≤ G') (c1 : ∀ a k, (a = o ∧ k = 5) ∨ (a = r + 5 ∧ k = 1) ∨ (o + 74 ≤ a ∧ a < o + 86 ∧ ((k ≠ 1 ∧ k ≠ 2) ∨ (a - o) % 2 = 1)) → mI C' a k = mI C a k) (cJ : ∀ j, mJ C' (r + 6) j = mJ C (r + 6) j) (d1 : ∀ a k, (a = t ∧ k = 11) ∨ a = t + 8 ∨ a = t + 9 ∨ a = t + 10 → mI D' a k = mI D a k) : RP vs r o t F' G' L x C' D' := by
  obtain ⟨⟨a1, a2, a3, a4, a5⟩, b, c⟩ := h
  refine ⟨⟨NL_fr a1 (c1 _ _ (by omega)) cJ, by rw [c1 _ _ (by omega)]; exact a2, by rw [d1 _ _ (by omega)]; exact a3, a4, a5⟩, fun q hq => ?_, fun q hq => ?_⟩
  · obtain ⟨b1, b2, b3, ⟨n, n1, n2, n3, n4, n5, n6⟩, b5⟩ := b q hq
    rw [d1 (t + 8) q (by omega)]
    refine ⟨by rw [c1 _ _ (by omega)]; exact b1, ?_, fun k k1 k2 => by rw [c1 _ _ (by omega)]; exact b3 k k1 k2, ⟨n, n1, n2, by rw [c1 _ _ (by omega)]; exact n3, by rw [d1 _ _ (by omega)]; exact n4, fun k hk => ?_, fun j k hj hk => ?_⟩, fun k hk => by rw [c1 _ _ (by omega), d1 _ _ (by omega)]; exact b5 k hk⟩
    · rcases b2 with h | ⟨⟨g, g1, g2⟩, h⟩
      · exact .inl h
      · exact .inr ⟨⟨g, by omega, g2⟩, h⟩
    · obtain ⟨f, f1, f2⟩ := n5 k hk
      exact ⟨f, by omega, by rw [d1 _ _ (by omega)]; exact f2⟩
    · rw [d1 _ _ (by omega), d1 _ _ (by omega)]
      exact n6 j k hj hk
  · rw [d1 _ _ (by omega)]
    exact ⟨(c q hq).1, fun k hk => by rw [d1 _ _ (by omega)]; exact (c q hq).2 k hk⟩
theorem RV_fr {Z vs : Nat → Nat} {o m F G F' G' k k' : Nat} {E : List (Nat × Nat)} {C C' D D' : gMem} (h : RV Z vs o m F G E k C D) (hF : F ≤ F') (hG : G ≤ G') (hk : k ≤ k') (c1 : ∀ a k, (a = o + 5 ∧ k = 0) ∨ a = o + 7 → mI C' a k = mI C a k) (cR : ∀ j, mR C' (o + 6) j = mR C (o + 6) j) (d1 : ∀ j, j < k → mI D' (m + 6) j = mI D (m + 6) j) : RV Z vs o m F' G' E k' C' D' := by
  obtain ⟨a, b⟩ := h
  refine ⟨by rw [c1 _ _ (by omega)]; exact a, fun s hs => ?_⟩
  obtain ⟨b1, b2, b3, b4⟩ := b s hs
  rw [c1 (o + 7) s (by omega), cR]
  refine ⟨b1, fun z => ?_, fun z => ?_, b4⟩
  · obtain ⟨x1, j, x2, x3, x4⟩ := b2 z
    exact ⟨by omega, j, by omega, x3, by rw [d1 _ x1]; exact x4⟩
  · obtain ⟨x1, j, x2, x3, x4⟩ := b3 z
    exact ⟨by omega, j, by omega, x3, by rw [d1 _ x1]; exact x4⟩

