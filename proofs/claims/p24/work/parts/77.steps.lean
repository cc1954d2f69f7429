/-! ## Pure: the reader's steps in memory -/
def cn (M : gMem) (a k : Nat) : Nat := (mI M a k).toNatClampNeg
def kwM (r p x k : Nat) (M : gMem) : gMem := if 0 ≤ fnd M x (mJ M (p + 4) k) then wI M r 8 (fnd M x (mJ M (p + 4) k)) else wI (ntM r p 3 k (wI M r 8 (fnd M x (mJ M (p + 4) k)))) r 8 0
def nwM (r p x k : Nat) (M : gMem) : gMem := if fnd M x (mJ M (p + 4) k) < 0 then (if cn M x 1 < cap r x then wI (wJ M (x + 1) (cn M x 1) (mJ M (p + 4) k)) x 1 (nI (cn M x 1 + 1)) else ntM r p 4 k M) else ntM r p 2 k M
def nbM (r p : Nat) (lo hi : Int32) (k : Nat) (M : gMem) : gMem := if Int64.toInt32 (mJ M (p + 4) k) < lo ∨ hi < Int64.toInt32 (mJ M (p + 4) k) then ntM r p 5 k (wI M r 8 (Int64.toInt32 (mJ M (p + 4) k))) else wI M r 8 (Int64.toInt32 (mJ M (p + 4) k))
def adM (Z : Nat → Nat) (o c : Nat) (v : Int32) (M : gMem) : gMem := if cn M (o + 5) 0 < 400 then wI (wI (wR M (o + 6) (cn M (o + 5) 0) (some (Z c))) (o + 7) (cn M (o + 5) 0) v) (o + 5) 0 (nI (cn M (o + 5) 0 + 1)) else M
def ngM (o : Nat) (M : gMem) : gMem := cpS sG (o + (18 + 2 * min (cn M o 2) 7)) (o + 12) (wI M o 2 (nI (min (cn M o 2 + 1) 8)))
def nfM (o : Nat) (M : gMem) : gMem := cpS sF (o + (34 + 2 * min (cn M o 3) 7)) (o + 14) (wI M o 3 (nI (min (cn M o 3 + 1) 8)))
def noM (o : Nat) (M : gMem) : gMem := wI M o 4 (nI (min (cn M o 4 + 1) 24))
def npM (o : Nat) (M : gMem) : gMem := cpS sP (o + (74 + 2 * min (cn M o 5) 5)) (o + 16) (wI M o 5 (nI (min (cn M o 5 + 1) 6)))
def paM (a : Nat) (v : Int32) (M : gMem) : gMem := if cn M a 3 < 8 then wI (wI M (a + 1) (cn M a 3) v) a 3 (nI (cn M a 3 + 1)) else M
theorem cn_e {M : gMem} {a k n : Nat} (h : mI M a k = nI n) (hn : n < 2 ^ 31) : cn M a k = n := sorry

theorem imin_s {a n : Nat} (ha : a < 2 ^ 30) (hn : n < 2 ^ 30) : imin (nI a + 1) (nI n) = nI (min (a + 1) n) := sorry

theorem nt_g {r p k : Nat} {e : Int32} {M : gMem} : mT (ntM r p e k M) = mT M ∧ mL (ntM r p e k M) = mL M ∧ mR (ntM r p e k M) = mR M ∧ mJ (ntM r p e k M) = mJ M ∧ ∀ a j, (a ≠ r ∨ (j ≠ 7 ∧ j ≠ 0)) → mI (ntM r p e k M) a j = mI M a j := sorry

theorem c_nextG {o a : Nat} {M : gMem} (L : LC o M) (ha : a ≤ 8) (h : mI M o 2 = nI a) : f_X7_nextGround M o = some (some (o + (18 + 2 * min a 7)), ngM o M) := sorry

theorem c_nextF {o a : Nat} {M : gMem} (L : LC o M) (ha : a ≤ 8) (h : mI M o 3 = nI a) (h9 : mI M (o + 14) 9 = 0) : f_X7_nextFisher M o = some (some (o + (34 + 2 * min a 7)), nfM o M) := sorry

theorem c_nextP {o a : Nat} {M : gMem} (L : LC o M) (ha : a ≤ 6) (h : mI M o 5 = nI a) : f_X7_nextPact M o = some (some (o + (74 + 2 * min a 5)), npM o M) := sorry

theorem c_nextO {o a : Nat} {M : gMem} (L : LC o M) (ha : a ≤ 24) (h : mI M o 4 = nI a) : f_X7_nextGo M o = some (some (o + (50 + min a 23)), noM o M) := sorry

theorem c_padd {o i n : Nat} {M : gMem} {v : Int32} (L : LC o M) (hi : i < 6) (hn : n ≤ 8) (h : mI M (o + (74 + 2 * i)) 3 = nI n) : f_X5_add M (o + (74 + 2 * i)) v = some ((), paM (o + (74 + 2 * i)) v M) := sorry

theorem c_sadd {Z : Nat → Nat} {o c n : Nat} {M : gMem} {v : Int32} (L : LC o M) (hZ : ∀ a b : Nat, a < 45 → b < 45 → Z a = Z b → a = b) (hc : c < 45) (hn : n ≤ 400) (h : mI M (o + 5) 0 = nI n) : f_X9_add Z M (o + 5) (some (Z c)) v = some ((), adM Z o c v M) := sorry
