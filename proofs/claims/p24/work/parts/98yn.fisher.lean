/-! ## Pure: a row of numbers that the reference writes to read one; what is asked of fishers -/
def aN (X : gMem) (len : Nat) (vs : Nat → Int32) : Nat → gMem
  | 0 => nW X 20 len
  | j + 1 => wI (aN X len vs j) (mN X) j (vs j)
theorem aN_f {X : gMem} {len : Nat} {vs : Nat → Int32} : ∀ j, mT (aN X len vs j) = mT (nW X 20 len) ∧ mL (aN X len vs j) = mL (nW X 20 len) ∧ mR (aN X len vs j) = mR (nW X 20 len) ∧ mN (aN X len vs j) = mN X + 1 ∧ ∀ a, a ≠ mN X → mI (aN X len vs j) a = mI X a := sorry

theorem aN_N {X : gMem} {len i j N : Nat} {vs : Nat → Int32} (e : N = mN X) : mI (aN X len vs j) N i = if i < j then vs i else 0 := sorry

theorem aN_o {X : gMem} {len a : Nat} {vs : Nat → Int32} (j : Nat) (h : a < mN X) : mT (aN X len vs j) a = mT X a ∧ mL (aN X len vs j) a = mL X a ∧ mR (aN X len vs j) a = mR X a ∧ mI (aN X len vs j) a = mI X a := sorry

theorem ar_s {α : Type} {X : gMem} {len j i : Nat} {vs : Nat → Int32} {v : Int32} {k : gMem → Option α} (hi : i = j) (h : v = vs j) : lw (wI (aN X len vs j) (mN X) i v) k = k (aN X len vs (j + 1)) := sorry

theorem LS_aN {m t a len j : Nat} {X : gMem} {vs : Nat → Int32} (L : LSt m t a X) (hm : m < mN X) (ha : a + 17 ≤ mN X) (ht : t + 17 ≤ mN X) : LSt m t a (aN X len vs j) := sorry

theorem STv_aN {Z : Nat → Nat} {b m o o' t n kb len j : Nat} {T : Nat → Nat} {X : gMem} {vs : Nat → Int32} (S : STv Z b m o o' t n kb T X) : STv Z b m o o' t n kb T (aN X len vs j) := sorry

def fvA (A : Nat → Nat → Int32) (f c : Nat) : Int32 := if c = 0 then A (34 + 2 * f) 1 else if c = 1 then A (34 + 2 * f) 0 else if c < 8 then A (34 + 2 * f) c else if c = 8 then A (34 + 2 * f) 9 else A (34 + 2 * f) 8
theorem c_fv {b o G g c : Nat} {M : gMem} (L : LC o M) (h1 : mT M b = 10) (h2 : mR M b 1 = some o) (h4 : mI M o 3 = nI G) (hG : G ≤ 8) (hg : g < G) (hc : c < 10) (c9 : cutF 86 o M (34 + 2 * g) 9 = 0 ∨ cutF 86 o M (34 + 2 * g) 9 = 1) : f_X11_fisher M b (nI g) (nI c) = some (.inr (fvA (cutF 86 o M) g c), M) := sorry
