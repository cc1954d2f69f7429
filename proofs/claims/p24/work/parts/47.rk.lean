/-- the same ints but for the stack of the sums -/
def eqS (sg sg' : Nat → Nat → Int32) : Prop := ∀ d : Nat, d ≠ 8 → sg' d = sg d
/-- the same ints but for those that are of use for a moment alone -/
def eqZ (sg sg' : Nat → Nat → Int32) : Prop := ∀ d : Nat, (d < 8 ∨ 11 < d) → sg' d = sg d
theorem eqS_Z {sg sg' : Nat → Nat → Int32} (h : eqS sg sg') : eqZ sg sg' := sorry

theorem eqS_r (sg : Nat → Nat → Int32) : eqS sg sg := sorry

theorem eqS_t {a b c : Nat → Nat → Int32} (h : eqS a b) (k : eqS b c) : eqS a c := sorry

theorem eqS_s {a b : Nat → Nat → Int32} (h : eqS a b) : eqS b a := sorry

theorem valN_congr {sg sg' : Nat → Nat → Int32} (h : eqZ sg sg') (g : Nat) (v : Int32) : valN sg' g v = valN sg g v := sorry

theorem rk1_congr {pg : Nat → Nat} {i t : Nat} {s s' : Nat → Nat → Int32} (h : eqZ s s') (h2 : ∀ k, k < t → s' 8 k = s 8 k) : (rk1 pg i (s', t)).2 = (rk1 pg i (s, t)).2 ∧ ∀ k, k < (rk1 pg i (s, t)).2 → (rk1 pg i (s', t)).1 8 k = (rk1 pg i (s, t)).1 8 k := sorry

theorem rkN_congr {pg : Nat → Nat} {st : Nat} {sg sg' : Nat → Nat → Int32} (h : eqZ sg sg') : ∀ j, (rkN pg st sg' j).2 = (rkN pg st sg j).2 ∧ ∀ k, k < (rkN pg st sg j).2 → (rkN pg st sg' j).1 8 k = (rkN pg st sg j).1 8 k := sorry

theorem rkV_congr {pg : Nat → Nat} {st n : Nat} {sg sg' : Nat → Nat → Int32} (h : eqZ sg sg') : rkV pg st sg' n = rkV pg st sg n := sorry

/-- a sum from st to en of len signs: what it comes to; the memory is the same but for the stack -/
noncomputable def rk (pg : Nat → Nat) (sg : Nat → Nat → Int32) (st en len : Nat) : Int32 := rkV pg st sg (min en len - st)
/-- the signs of the sums in the Shore at o -/
def PG (Z pg : Nat → Nat) (o len : Nat) (M : gMem) (sg : Nat → Nat → Int32) : Prop := (∀ a b : Nat, a < 45 → b < 45 → Z a = Z b → a = b) ∧ (∀ i, i < len → pg i < 45 ∧ mR M (o + 6) i = some (Z (pg i)) ∧ valOK (pg i) (sg 7 i)) ∧ sg 5 0 = nI len ∧ len ≤ 400
theorem PG_congr {Z pg : Nat → Nat} {o len : Nat} {M : gMem} {sg sg' : Nat → Nat → Int32} (P : PG Z pg o len M sg) (h : sg' 7 = sg 7) (h5 : sg' 5 = sg 5) : PG Z pg o len M sg' := sorry

theorem s_rk {Z pg : Nat → Nat} {M : gMem} {o len st en : Nat} {sg : Nat → Nat → Int32} (L : LC o M) (P : PG Z pg o len M sg) (hst : st < 2 ^ 30) (hen : en < 2 ^ 31) : ∃ sg', eqS sg sg' ∧ f_X9_reckon Z (sC o sg M) (o + 5) (nI st) (nI en) (some o) = some (rk pg sg st en len, sC o sg' M) := sorry

theorem rk_congr {pg : Nat → Nat} {st en len : Nat} {sg sg' : Nat → Nat → Int32} (h : eqZ sg sg') : rk pg sg' st en len = rk pg sg st en len := sorry
