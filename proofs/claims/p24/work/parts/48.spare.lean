/-- the pact p at ground g hides it from the fisher f: f is in it, and what it tells is more than the fish there -/
def spares (pg : Nat → Nat) (len : Nat) (sg : Nat → Nat → Int32) (g f : Int32) (p : Nat) : Prop := sg (74 + 2 * p) 0 = g ∧ hasN (sg (75 + 2 * p)) (sg (74 + 2 * p) 3).toNatClampNeg f ∧ ¬ rk pg sg (sg (74 + 2 * p) 1).toNatClampNeg (sg (74 + 2 * p) 2).toNatClampNeg len ≤ sum5 (sg (19 + 2 * g.toNatClampNeg)) 5
theorem spares_congr {pg : Nat → Nat} {len : Nat} {sg sg' : Nat → Nat → Int32} (h : eqZ sg sg') {g f : Int32} {p : Nat} : spares pg len sg' g f p ↔ spares pg len sg g f p := sorry

/-- the pacts of a Shore are in order -/
def PK (sg : Nat → Nat → Int32) (np : Nat) : Prop := sg 0 5 = nI np ∧ np ≤ 6 ∧ ∀ p, p < np → (∃ c, c ≤ 8 ∧ sg (74 + 2 * p) 3 = nI c) ∧ (∃ a, a < 2 ^ 30 ∧ sg (74 + 2 * p) 1 = nI a) ∧ ∃ b, b < 2 ^ 30 ∧ sg (74 + 2 * p) 2 = nI b
theorem e_82 {Z : Nat → Nat} {N : gMem} {o p : Nat} {g f : Int32} : b_X7_isSpared_82 Z N o g f (nI p) = some (.inl (N, nI (p + 1))) := sorry

theorem s7_spStep {Z pg : Nat → Nat} {M : gMem} {o len np p g : Nat} {f : Int32} {sg : Nat → Nat → Int32} (L : LC o M) (P : PG Z pg o len M sg) (K : PK sg np) (hp : p < np) (hg : g < 8) : ∃ sg', eqS sg sg' ∧ (spares pg len sg (nI g) f p → bb_X7_isSpared_16 Z (sC o sg M) o (nI g) f (nI p) = some (.inr (1, sC o sg' M))) ∧ (¬ spares pg len sg (nI g) f p → bb_X7_isSpared_16 Z (sC o sg M) o (nI g) f (nI p) = some (.inl (sC o sg' M, nI (p + 1)))) := sorry

theorem PK_congr {sg sg' : Nat → Nat → Int32} {np : Nat} (K : PK sg np) (h : eqZ sg sg') : PK sg' np := sorry

theorem PG_eqS {Z pg : Nat → Nat} {o len : Nat} {M : gMem} {sg sg' : Nat → Nat → Int32} (P : PG Z pg o len M sg) (h : eqZ sg sg') : PG Z pg o len M sg' := sorry

theorem s7_spLoop {Z pg : Nat → Nat} {M : gMem} {o len np g : Nat} {f : Int32} (L : LC o M) (hg : g < 8) : ∀ (d p : Nat) (sg : Nat → Nat → Int32), PG Z pg o len M sg → PK sg np → p + d = np → ∃ sg', eqS sg sg' ∧ ((∃ q, p ≤ q ∧ q < np ∧ spares pg len sg (nI g) f q) → lp_X7_isSpared_16 Z (sC o sg M) o (nI g) f (nI p) = some (1, sC o sg' M)) ∧ ((¬ ∃ q, p ≤ q ∧ q < np ∧ spares pg len sg (nI g) f q) → lp_X7_isSpared_16 Z (sC o sg M) o (nI g) f (nI p) = some (0, sC o sg' M)) := sorry

/-- a fisher who isn't a cheat is kept from a ground by a pact that spares -/
def sparedP (pg : Nat → Nat) (len np : Nat) (sg : Nat → Nat → Int32) (g f : Nat) : Prop := sg (34 + 2 * f) 9 = 0 ∧ ∃ q, q < np ∧ spares pg len sg (nI g) (nI f) q
theorem sparedP_congr {pg : Nat → Nat} {len np : Nat} {sg sg' : Nat → Nat → Int32} (h : eqZ sg sg') {g f : Nat} : sparedP pg len np sg' g f ↔ sparedP pg len np sg g f := sorry

theorem s7_isSpared {Z pg : Nat → Nat} {M : gMem} {o len np g f : Nat} {sg : Nat → Nat → Int32} (L : LC o M) (P : PG Z pg o len M sg) (K : PK sg np) (hg : g < 8) (hf : f < 8) : ∃ sg', eqS sg sg' ∧ f_X7_isSpared Z (sC o sg M) o (nI g) (nI f) = some (cif (sparedP pg len np sg g f) 1 0, sC o sg' M) := sorry
