/-! ## Pure: small methods of a Shore -/
/-- all boats at home -/
def boat0 (sg : Nat → Nat → Int32) : Nat → Nat → Nat → Int32
  | 0 => sg
  | n + 1 => up2 (boat0 sg n) (18 + 2 * n) 1 0
theorem boat0_o {sg : Nat → Nat → Int32} {d k : Nat} (h : d < 18 ∨ k ≠ 1) : ∀ n, boat0 sg n d k = sg d k := sorry

theorem s7_callBoatsHome {M : gMem} {o n : Nat} {sg : Nat → Nat → Int32} (L : LC o M) (h : sg 0 2 = nI n) (hn : n ≤ 8) : f_X7_callBoatsHome (sC o sg M) o = some ((), sC o (boat0 sg n) M) := sorry

def sumN (f : Nat → Int32) : Nat → Int32
  | 0 => 0
  | n + 1 => sumN f n + f n
theorem sC_Ig {o d : Nat} {sg : Nat → Nat → Int32} {M : gMem} (h : d < 86) : mI (sC o sg M) (o + d) = sg d := sorry

theorem s_gFish {M : gMem} {o i : Nat} {sg : Nat → Nat → Int32} (L : LC o M) (hi : i < 8) : f_X3_allFish (sC o sg M) (o + (18 + 2 * i)) = some (sum5 (sg (19 + 2 * i)) 5, sC o sg M) := sorry

theorem s7_forget {M : gMem} {o : Nat} {sg : Nat → Nat → Int32} (L : LC o M) : f_X7_forget (sC o sg M) o = some ((), sC o (up2 (up2 (up2 (up2 (up2 sg 0 2 0) 0 3 0) 0 4 0) 0 5 0) 5 0 0) M) := sorry

theorem s7_allFish {M : gMem} {o n : Nat} {sg : Nat → Nat → Int32} (L : LC o M) (h : sg 0 2 = nI n) (hn : n ≤ 8) : f_X7_allFish (sC o sg M) o = some (sumN (fun i => sum5 (sg (19 + 2 * i)) 5) n, sC o sg M) := sorry

theorem s7_allStores {M : gMem} {o n : Nat} {sg : Nat → Nat → Int32} (L : LC o M) (h : sg 0 3 = nI n) (hn : n ≤ 8) : f_X7_allStores (sC o sg M) o = some (sumN (fun i => sg (34 + 2 * i) 4) n, sC o sg M) := sorry

theorem s7_widenedNets {M : gMem} {o n : Nat} {sg : Nat → Nat → Int32} (L : LC o M) (h : sg 0 3 = nI n) (hn : n ≤ 8) : f_X7_widenedNets (sC o sg M) o = some (sumN (fun i => if sg (34 + 2 * i) 1 ≤ sg (34 + 2 * i) 0 then (0 : Int32) else 1) n, sC o sg M) := sorry

theorem s7_allCheats {M : gMem} {o n : Nat} {sg : Nat → Nat → Int32} (L : LC o M) (h : sg 0 3 = nI n) (hn : n ≤ 8) : f_X7_allCheats (sC o sg M) o = some (sumN (fun i => if sg (34 + 2 * i) 9 = nI 0 then (0 : Int32) else 1) n, sC o sg M) := sorry

/-- the smallest and the largest of the first n + 1 -/
def minN (f : Nat → Int32) : Nat → Int32
  | 0 => f 0
  | n + 1 => imin (minN f n) (f (n + 1))
def maxN (f : Nat → Int32) : Nat → Int32
  | 0 => f 0
  | n + 1 => imax (maxN f n) (f (n + 1))
theorem s7_storeGap0 {M : gMem} {o : Nat} {sg : Nat → Nat → Int32} (L : LC o M) (h : sg 0 3 = nI 0) : f_X7_storeGap (sC o sg M) o = some (0, sC o sg M) := sorry

theorem s7_storeGap {M : gMem} {o n : Nat} {sg : Nat → Nat → Int32} (L : LC o M) (h : sg 0 3 = nI (n + 1)) (hn : n < 8) : f_X7_storeGap (sC o sg M) o = some (maxN (fun i => sg (34 + 2 * i) 4) n - minN (fun i => sg (34 + 2 * i) 4) n, sC o sg M) := sorry
