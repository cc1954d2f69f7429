/-! ## Pure: both are taught -/
def HideP (p : Prop) : Prop := p
/-- the same cells below a bound, but for m's own row -/
theorem LS_e2 {m t a : Nat} {M X : gMem} (L : LSt m t a M) (B : Nat) (h : ∀ b, m ≤ b → b < B → mT X b = mT M b ∧ mL X b = mL M b ∧ (b ≠ m → mR X b = mR M b)) (h11 : mR X m 11 = mR M m 11) (hm : m < a) (ha : a + 17 ≤ B) (ht : t + 17 ≤ B) (hmt : m < t) : LSt m t a X := by
  obtain ⟨⟨a1, a2, a3, a4, a5⟩, b, c, d, e⟩ := L
  refine ⟨⟨by rw [(h a (by omega) (by omega)).1]; exact a1, by rw [(h a (by omega) (by omega)).2.2 (by omega)]; exact a2, by rw [(h m (by omega) (by omega)).1]; exact a3, by rw [h11]; exact a4, by rw [(h t (by omega) (by omega)).1]; exact a5⟩, b, fun j j1 j2 => ?_, fun j j1 j2 => ?_, fun k k1 k2 => ?_⟩
  · obtain ⟨x, y, z⟩ := c j j1 j2
    exact ⟨by rw [(h (a + j) (by omega) (by omega)).1]; exact x, by rw [(h (a + j) (by omega) (by omega)).2.1]; exact y, by rw [(h a (by omega) (by omega)).2.2 (by omega)]; exact z⟩
  · obtain ⟨x, y⟩ := d j j1 j2
    exact ⟨by rw [(h (t + j) (by omega) (by omega)).1]; exact x, by rw [(h (t + j) (by omega) (by omega)).2.1]; exact y⟩
  · rw [(h t (by omega) (by omega)).2.2 (by omega)]; exact e k k1 k2
theorem LC_e {o : Nat} {M X : gMem} (L : LC o M) (h : ∀ d, d < 86 → mT X (o + d) = mT M (o + d) ∧ mL X (o + d) = mL M (o + d) ∧ (d ≠ 6 → mR X (o + d) = mR M (o + d))) : LC o X := fun d hd => by
  obtain ⟨a, b, c⟩ := L d hd
  obtain ⟨h1, h2, h3⟩ := h d hd
  exact ⟨h1.trans a, h2.trans b, fun z k => by rw [h3 z]; exact c z k⟩
theorem FRS_e {o : Nat} {M X : gMem} (F : FRS o M) (h : ∀ d, 12 ≤ d → d < 18 → mI X (o + d) = mI M (o + d)) : FRS o X := by
  unfold FRS at *
  rw [h 12 (by omega) (by omega), h 13 (by omega) (by omega), h 14 (by omega) (by omega), h 15 (by omega) (by omega), h 16 (by omega) (by omega), h 17 (by omega) (by omega)]
  exact F
theorem PSz_e {o : Nat} {M X : gMem} (P : PSz o M) (h : ∀ d, 74 ≤ d → d < 86 → mI X (o + d) = mI M (o + d)) : PSz o X := fun q hq => by
  rw [h _ (by omega) (by omega)]
  exact P q hq
theorem MP_e {m n : Nat} {T : Nat → Nat} {M X : gMem} (P : MP m n T M (mI M) (mR M)) (h : ∀ j, j < 7 → mT X (m + j) = mT M (m + j) ∧ mL X (m + j) = mL M (m + j)) (hR : ∀ k, k < 9 → mR X m k = mR M m k) (h2 : mI X m 2 = nI n) (h1 : mI X (m + 1) = mI M (m + 1)) : MP m n T X (mI X) (mR X) := by
  obtain ⟨⟨a1, a2, a3, a4⟩, ⟨b1, b4, b5, b6, b7, b8⟩, c, d, e⟩ := P
  have t0 : mT X m = mT M m := (h 0 (by omega)).1
  exact ⟨⟨t0.trans a1, fun j j1 j2 => (h j j2).1.trans (a2 j j1 j2), (h 1 (by omega)).2.trans a3, fun j j1 j2 => (h j j2).2.trans (a4 j j1 j2)⟩, ⟨by rw [hR 1 (by omega)]; exact b1, by rw [hR 4 (by omega)]; exact b4, by rw [hR 5 (by omega)]; exact b5, by rw [hR 6 (by omega)]; exact b6, by rw [hR 7 (by omega)]; exact b7, by rw [hR 8 (by omega)]; exact b8⟩, h2, d, fun q hq => by rw [h1]; exact e q hq⟩
theorem MP_0 {m n : Nat} {T : Nat → Nat} {M X : gMem} (P : MP m n T M (mI M) (mR M)) (h : ∀ j, j < 7 → mT X (m + j) = mT M (m + j) ∧ mL X (m + j) = mL M (m + j)) (hR : ∀ k, k < 9 → mR X m k = mR M m k) (h2 : mI X m 2 = 0) : MP m 0 T X (mI X) (mR X) := by
  obtain ⟨⟨a1, a2, a3, a4⟩, ⟨b1, b4, b5, b6, b7, b8⟩, c, d, e⟩ := P
  have t0 : mT X m = mT M m := (h 0 (by omega)).1
  exact ⟨⟨t0.trans a1, fun j j1 j2 => (h j j2).1.trans (a2 j j1 j2), (h 1 (by omega)).2.trans a3, fun j j1 j2 => (h j j2).2.trans (a4 j j1 j2)⟩, ⟨by rw [hR 1 (by omega)]; exact b1, by rw [hR 4 (by omega)]; exact b4, by rw [hR 5 (by omega)]; exact b5, by rw [hR 6 (by omega)]; exact b6, by rw [hR 7 (by omega)]; exact b7, by rw [hR 8 (by omega)]; exact b8⟩, h2, by omega, fun q hq => absurd hq (Nat.not_lt_zero _)⟩
theorem TP_0 {p n : Nat} {T : Nat → Nat} {M X : gMem} (P : TP p n T M (mI M) (mR M)) (h : ∀ j, j < 5 → mT X (p + j) = mT M (p + j) ∧ mL X (p + j) = mL M (p + j)) (hR : mR X p = mR M p) (h2 : mI X p 0 = 0) : TP p 0 T X (mI X) (mR X) := by
  obtain ⟨⟨a0, a1, a2, a3, a4, a5, a6, a7, a8⟩, ⟨b1, b4, b5, b6⟩, c, d, e⟩ := P
  have t0 : mT X p = mT M p := (h 0 (by omega)).1
  exact ⟨⟨t0.trans a0, (h 1 (by omega)).1.trans a1, (h 1 (by omega)).2.trans a2, (h 2 (by omega)).1.trans a3, (h 2 (by omega)).2.trans a4, (h 3 (by omega)).1.trans a5, (h 3 (by omega)).2.trans a6, (h 4 (by omega)).1.trans a7, (h 4 (by omega)).2.trans a8⟩, ⟨by rw [hR]; exact b1, by rw [hR]; exact b4, by rw [hR]; exact b5, by rw [hR]; exact b6⟩, h2, by omega, fun q hq => absurd hq (Nat.not_lt_zero _)⟩
