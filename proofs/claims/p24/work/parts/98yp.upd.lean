/-! ## Pure: what changes both; mend, cheat, lot -/
def toldX (d k : Nat) : Prop := told d k ∧ (k ≠ 9 ∨ d < 34 ∨ 50 ≤ d)
def eqX (A A' : Nat → Nat → Int32) : Prop := ∀ d k, toldX d k → A' d k = A d k
theorem WS_x {A A' : Nat → Nat → Int32} {F G np ng : Nat} (h : eqX A A') (W : WS A F G np ng) : WS A' F G np ng := sorry

theorem TR_x {pg : Nat → Nat} {len : Nat} {A A' : Nat → Nat → Int32} {M : gMem} {t F G np ng : Nat} (hG : G ≤ 8) (hF : F ≤ 8) (hnp : np ≤ 6) (hng : ng ≤ 24) (h : eqX A A') (T : TR pg len A M t F G np ng) : TR pg len A' M t F G np ng := sorry

theorem eqX_T {A A' : Nat → Nat → Int32} (h : eqT A A') : eqX A A' := sorry

/-- new numbers in both -/
theorem STv_u {Z : Nat → Nat} {b m o o' t n kb kb' : Nat} {T : Nat → Nat} {M X : gMem} (S : STv Z b m o o' t n kb T M) (hT : ∀ a, a < mN M → mT X a = mT M a ∧ mL X a = mL M a ∧ (a ≠ o' + 6 → mR X a = mR M a)) (hI : ∀ a, a < mN M → a ≠ m → ¬ (b + 6 ≤ a ∧ a < b + 178) → ¬ (m + 24 ≤ a ∧ a < m + 58) → mI X a = mI M a) (hm : ∀ k, k ≠ 0 → mI X m k = mI M m k) (hF : FRS o X ∧ FRS o' X ∧ PSz o X ∧ PSz o' X) (hR : RELv Z kb' o m t X) (hN : mN M ≤ mN X) : STv Z b m o o' t n kb' T X := sorry

/-- the relation, new -/
theorem REL_u {Z pg : Nat → Nat} {kb o m t len F G np nO : Nat} {M X : gMem} {A' st' : Nat → Nat → Int32} (h1 : len ≤ 400) (P : PG Z pg o len M (cutF 86 o M)) (W : WS (cutF 86 o M) F G np nO) (TRr : TR pg len (cutF 86 o M) M t F G np nO) (hE : eqX (cutF 86 o M) A') (hA : ∀ d, d < 86 → mI X (o + d) = A' d) (hst : ∀ d, d < 17 → mI X (m + 24 + d) = st' d) (h6 : mR X (o + 6) = mR M (o + 6)) (ht : ∀ j, j < 17 → mI X (t + j) = mI M (t + j)) (D : WD A' F G) (R : RS A' st' F G np) (V : SVa kb A' F G) : RELv Z kb o m t X := sorry
