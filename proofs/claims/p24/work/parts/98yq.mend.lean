/-! ## Pure: the reference's cells in a memory where the class has changed; mend, cheat -/
theorem eqX_PSz {o : Nat} {A' : Nat → Nat → Int32} {M X : gMem} (P : PSz o M) (hE : eqX (cutF 86 o M) A') (hA : ∀ d, d < 86 → mI X (o + d) = A' d) : PSz o X := sorry

/-- both have new numbers -/
theorem STv_s {Z pg : Nat → Nat} {b m o o' t n kb kb' len F G np nO : Nat} {T : Nat → Nat} {M : gMem} {A' st' : Nat → Nat → Int32} {v : Int32} (S : STv Z b m o o' t n kb T M) (h1 : len ≤ 400) (P : PG Z pg o len M (cutF 86 o M)) (W : WS (cutF 86 o M) F G np nO) (TRr : TR pg len (cutF 86 o M) M t F G np nO) (hE : eqX (cutF 86 o M) A') (h12 : ∀ d, 12 ≤ d → d < 18 → A' d = cutF 86 o M d) (D : WD A' F G) (R : RS A' st' F G np) (V : SVa kb' A' F G) : STv Z b m o o' t n kb' T (bC 17 (m + 24) st' (wI (sC o A' M) m 0 v)) := sorry

/-- the reference, seen behind the class -/
theorem STv_y {Z : Nat → Nat} {b m o o' t n kb : Nat} {T : Nat → Nat} {M : gMem} {A' : Nat → Nat → Int32} (v : Int32) (S : STv Z b m o o' t n kb T M) : bC 17 (m + 24) (cutF 17 (m + 24) M) (wI (sC o A' M) m 0 v) = wI (sC o A' M) m 0 v ∧ ∀ j k, j < 17 → mI (wI (sC o A' M) m 0 v) (t + j) k = mI M (t + j) k := sorry

theorem up2_d {A : Nat → Nat → Int32} {d e k : Nat} {v : Int32} (h : d ≠ e) : up2 A e k v d = A d := sorry
