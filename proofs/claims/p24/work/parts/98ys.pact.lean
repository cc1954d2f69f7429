/-! ## Pure: pact -/
def pvA (A : Nat → Nat → Int32) (p c : Nat) : Int32 := if c = 0 then (if 0 ≤ A (74 + 2 * p) 0 then 1 else 0) else if c = 1 then A (74 + 2 * p) 0 else if c = 2 then A (74 + 2 * p) 3 else if c = 3 then A (75 + 2 * p) 0 else A (74 + 2 * p) (c + 1)
theorem c_pv {b o np p c : Nat} {M : gMem} (L : LC o M) (h1 : mT M b = 10) (h2 : mR M b 1 = some o) (h4 : mI M o 5 = nI np) (hG : np ≤ 6) (hp : p < np) (hc : c < 7) : f_X11_pact M b (nI p) (nI c) = some (.inr (pvA (cutF 86 o M) p c), M) := sorry
