/-! ## Pure: a copy of the class's Shore is as good as it -/
/-- the copy A1 of A -/
def CPY (A A1 : Nat → Nat → Int32) (F G np ng len : Nat) : Prop :=
  (∀ k, k < 6 → A1 0 k = A 0 k) ∧ A1 5 0 = A 5 0 ∧ (∀ k, k < len → A1 7 k = A 7 k) ∧
  (∀ g k, g < G → k < 3 → A1 (18 + 2 * g) k = A (18 + 2 * g) k) ∧ (∀ g k, g < G → 1 ≤ k → k < 6 → A1 (19 + 2 * g) k = A (19 + 2 * g) k) ∧
  (∀ f k, f < F → k < 10 → A1 (34 + 2 * f) k = A (34 + 2 * f) k) ∧ (∀ f k, f < F → k < 8 → A1 (35 + 2 * f) k = A (35 + 2 * f) k) ∧
  (∀ i k, i < ng → k < 4 → A1 (50 + i) k = A (50 + i) k) ∧
  (∀ p k, p < np → k < 8 → k ≠ 4 → A1 (74 + 2 * p) k = A (74 + 2 * p) k) ∧ ∀ p k, p < np → k < 8 → A1 (75 + 2 * p) k = A (75 + 2 * p) k
theorem WS_k {A A1 : Nat → Nat → Int32} {F G np ng len : Nat} (C : CPY A A1 F G np ng len) (W : WS A F G np ng) : WS A1 F G np ng := sorry

theorem WD_k {A A1 : Nat → Nat → Int32} {F G np ng len : Nat} (C : CPY A A1 F G np ng len) (W : WD A F G) : WD A1 F G := sorry

theorem SR_k {pg : Nat → Nat} {len : Nat} {A A1 : Nat → Nat → Int32} {code : Nat → Int32} {F G : Nat} {x y u v : Int32} (h7 : ∀ k, k < len → A1 7 k = A 7 k) (S : SR pg len A code F G x y u v) : SR pg len A1 code F G x y u v := sorry

theorem TR_k {pg : Nat → Nat} {len : Nat} {A A1 : Nat → Nat → Int32} {M : gMem} {t F G np ng : Nat} (C : CPY A A1 F G np ng len) (T : TR pg len A M t F G np ng) : TR pg len A1 M t F G np ng := sorry

theorem RS_k {A A1 st : Nat → Nat → Int32} {F G np ng len : Nat} (hG : G ≤ 8) (C : CPY A A1 F G np ng len) (R : RS A st F G np) : RS A1 st F G np := sorry

theorem SVa_k {A A1 : Nat → Nat → Int32} {kb F G np ng len : Nat} (hG : G ≤ 8) (C : CPY A A1 F G np ng len) (S : SVa kb A F G) : SVa kb A1 F G := sorry

/-- what a look ahead leaves alone -/
def OFr (o' : Nat) (M X : gMem) : Prop := mT X = mT M ∧ mL X = mL M ∧ mJ X = mJ M ∧ mN X = mN M ∧ (∀ a, a ≠ o' + 6 → mR X a = mR M a) ∧ (∀ a, (a < o' ∨ o' + 86 ≤ a ∨ (o' + 12 ≤ a ∧ a < o' + 18)) → mI X a = mI M a) ∧ PSz o' X
theorem OFr_0 {o' : Nat} {M : gMem} (P : PSz o' M) : OFr o' M M := sorry

theorem OFr_LC {o o' : Nat} {M X : gMem} (O : OFr o' M X) (L : LC o M) (h : o ≠ o' → o + 86 ≤ o' ∨ o' + 86 ≤ o) : LC o X := sorry

/-- the copy of the class -/
theorem c_copy {Z pg : Nat → Nat} {o o' len F G np ng : Nat} {M X : gMem} (L : LC o M) (L' : LC o' M) (ho : o + 86 ≤ o' ∨ o' + 86 ≤ o) (O : OFr o' M X) (P : PG Z pg o len M (cutF 86 o M)) (W : WS (cutF 86 o M) F G np ng) (PZ : PSz o M) (h9 : ∀ f, f < F → cutF 86 o M (34 + 2 * f) 9 = 0 ∨ cutF 86 o M (34 + 2 * f) 9 = 1) : ∃ X1, f_X7_copyFrom Z X o' (some o) = some ((), X1) ∧ OFr o' M X1 ∧ CPY (cutF 86 o M) (cutF 86 o' X1) F G np ng len ∧ PG Z pg o' len X1 (cutF 86 o' X1) := sorry
