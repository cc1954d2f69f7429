/-- the goes of a Shore are in order -/
def GO (sg : Nat → Nat → Int32) (ng : Nat) : Prop := sg 0 4 = nI ng ∧ ng ≤ 24 ∧ ∀ i, i < ng → (∃ f, f < 8 ∧ sg (50 + i) 0 = nI f) ∧ (∃ g, g < 8 ∧ sg (50 + i) 1 = nI g) ∧ (∃ a, a < 2 ^ 30 ∧ sg (50 + i) 2 = nI a) ∧ ∃ b, b < 2 ^ 30 ∧ sg (50 + i) 3 = nI b
theorem GO_congr {sg sg' : Nat → Nat → Int32} {ng : Nat} (K : GO sg ng) (h : eqZ sg sg') : GO sg' ng := sorry

/-- the go i lets the fisher f sail: it is his, its ground has room, its sum isn't 0 or it has none, and he isn't kept away -/
def goOK (pg : Nat → Nat) (len np : Nat) (sg : Nat → Nat → Int32) (f i : Nat) : Prop := sg (50 + i) 0 = nI f ∧ sg (18 + 2 * (sg (50 + i) 1).toNatClampNeg) 1 < sg (18 + 2 * (sg (50 + i) 1).toNatClampNeg) 0 ∧ (sg (50 + i) 2 = sg (50 + i) 3 ∨ ¬ rk pg sg (sg (50 + i) 2).toNatClampNeg (sg (50 + i) 3).toNatClampNeg len = 0) ∧ ¬ sparedP pg len np sg (sg (50 + i) 1).toNatClampNeg f
theorem goOK_congr {pg : Nat → Nat} {len np : Nat} {sg sg' : Nat → Nat → Int32} (h : eqZ sg sg') {f i : Nat} : goOK pg len np sg' f i ↔ goOK pg len np sg f i := sorry

theorem e_114 {Z : Nat → Nat} {N : gMem} {o i : Nat} {f : Int32} : b_X7_firstGo_114 Z N o f (nI i) = some (.inl (N, nI (i + 1))) := sorry

theorem s7_go90 {Z pg : Nat → Nat} {M : gMem} {o len np g f i : Nat} {sg : Nat → Nat → Int32} (L : LC o M) (P : PG Z pg o len M sg) (K : PK sg np) (hi : i < 24) (hf : f < 8) (hg : g < 8) (eg : sg (50 + i) 1 = nI g) : ∃ sg', eqS sg sg' ∧ (¬ sparedP pg len np sg g f → b_X7_firstGo_90 Z (sC o sg M) o (nI f) (nI i) (some (o + (50 + i))) 1 = some (.inr (nI g, sC o sg' M))) ∧ (sparedP pg len np sg g f → b_X7_firstGo_90 Z (sC o sg M) o (nI f) (nI i) (some (o + (50 + i))) 1 = some (.inl (sC o sg' M, nI (i + 1)))) := sorry

theorem s7_goStep {Z pg : Nat → Nat} {M : gMem} {o len np ng f i : Nat} {sg : Nat → Nat → Int32} (L : LC o M) (P : PG Z pg o len M sg) (K : PK sg np) (G : GO sg ng) (hi : i < ng) (hf : f < 8) : ∃ sg', eqS sg sg' ∧ (goOK pg len np sg f i → bb_X7_firstGo_2 Z (sC o sg M) o (nI f) (nI i) = some (.inr (sg (50 + i) 1, sC o sg' M))) ∧ (¬ goOK pg len np sg f i → bb_X7_firstGo_2 Z (sC o sg M) o (nI f) (nI i) = some (.inl (sC o sg' M, nI (i + 1)))) := sorry

/-- the ground of the first of d goes from i on that lets f sail; -1: none -/
noncomputable def fgo (pg : Nat → Nat) (len np : Nat) (sg : Nat → Nat → Int32) (f : Nat) : Nat → Nat → Int32
  | 0, _ => -1
  | d + 1, i => cif (goOK pg len np sg f i) (sg (50 + i) 1) (fgo pg len np sg f d (i + 1))
theorem fgo_congr {pg : Nat → Nat} {len np : Nat} {sg sg' : Nat → Nat → Int32} (h : eqZ sg sg') {f : Nat} : ∀ d i, i + d ≤ 24 → fgo pg len np sg' f d i = fgo pg len np sg f d i := sorry

theorem s7_goLoop {Z pg : Nat → Nat} {M : gMem} {o len np ng f : Nat} (L : LC o M) (hf : f < 8) : ∀ (d i : Nat) (sg : Nat → Nat → Int32), PG Z pg o len M sg → PK sg np → GO sg ng → i + d = ng → ∃ sg', eqS sg sg' ∧ lp_X7_firstGo_2 Z (sC o sg M) o (nI f) (nI i) = some (fgo pg len np sg f d i, sC o sg' M) := sorry

theorem s7_firstGo {Z pg : Nat → Nat} {M : gMem} {o len np ng f : Nat} {sg : Nat → Nat → Int32} (L : LC o M) (P : PG Z pg o len M sg) (K : PK sg np) (G : GO sg ng) (hf : f < 8) : ∃ sg', eqS sg sg' ∧ f_X7_firstGo Z (sC o sg M) o (nI f) = some (fgo pg len np sg f ng 0, sC o sg' M) := sorry
