/-! ## Pure: a Shore at o: its 86 cells by their offsets -/
def layT (d : Nat) : Nat :=
  if d < 18 then [7, 23, 24, 25, 26, 8, 27, 20, 20, 20, 20, 20, 3, 20, 1, 20, 5, 20].getD d 0
  else if d < 34 then (if d % 2 = 0 then 3 else 20)
  else if d < 50 then (if d % 2 = 0 then 1 else 20)
  else if d < 74 then 2
  else (if d % 2 = 0 then 5 else 20)
def layL (d : Nat) : Nat :=
  if d < 18 then [0, 8, 8, 24, 6, 0, 400, 400, 400, 8, 8, 6, 0, 6, 0, 8, 0, 8].getD d 0
  else if d < 34 then (if d % 2 = 0 then 0 else 6)
  else if d < 50 then (if d % 2 = 0 then 0 else 8)
  else if d < 74 then 0
  else (if d % 2 = 0 then 0 else 8)
def layR (d k : Nat) : Option Nat :=
  if d = 0 then (if k < 6 then none else [1, 2, 3, 4, 5, 9, 10, 11, 12, 14, 16][k - 6]?)
  else if d = 1 then (if k < 8 then some (18 + 2 * k) else none)
  else if d = 2 then (if k < 8 then some (34 + 2 * k) else none)
  else if d = 3 then (if k < 24 then some (50 + k) else none)
  else if d = 4 then (if k < 6 then some (74 + 2 * k) else none)
  else if d = 5 then (if k = 1 then some 6 else if k = 2 then some 7 else if k = 3 then some 8 else none)
  else if d = 12 then (if k = 3 then some 13 else none)
  else if d = 14 then (if k = 10 then some 15 else none)
  else if d = 16 then (if k = 4 then some 17 else none)
  else if 18 ≤ d ∧ d < 34 ∧ d % 2 = 0 then (if k = 3 then some (d + 1) else none)
  else if 34 ≤ d ∧ d < 50 ∧ d % 2 = 0 then (if k = 10 then some (d + 1) else none)
  else if 74 ≤ d ∧ d < 86 ∧ d % 2 = 0 then (if k = 4 then some (d + 1) else none)
  else none
/-- the memory has a Shore at o (the row of signs of its Sums aside, which changes) -/
def LC (o : Nat) (M : gMem) : Prop := ∀ d : Nat, d < 86 → mT M (o + d) = layT d ∧ mL M (o + d) = layL d ∧ (d ≠ 6 → ∀ k : Nat, mR M (o + d) k = (layR d k).map (o + ·))
/-- the memory with the ints sg in the Shore at o -/
def sC (o : Nat) (sg : Nat → Nat → Int32) (M : gMem) : gMem := sI M (fun a k => if o ≤ a ∧ a < o + 86 then sg (a - o) k else mI M a k)
theorem sC_I {o d k : Nat} {sg : Nat → Nat → Int32} {M : gMem} (h : d < 86) : mI (sC o sg M) (o + d) k = sg d k := sorry

theorem sC_I0 {o k : Nat} {sg : Nat → Nat → Int32} {M : gMem} : mI (sC o sg M) o k = sg 0 k := sorry

theorem sC_Io {o a k : Nat} {sg : Nat → Nat → Int32} {M : gMem} (h : a < o ∨ o + 86 ≤ a) : mI (sC o sg M) a k = mI M a k := sorry

theorem sC_W {o d k : Nat} {v : Int32} {sg : Nat → Nat → Int32} {M : gMem} (h : d < 86) : wI (sC o sg M) (o + d) k v = sC o (up2 sg d k v) M := sorry

theorem sC_W0 {o k : Nat} {v : Int32} {sg : Nat → Nat → Int32} {M : gMem} : wI (sC o sg M) o k v = sC o (up2 sg 0 k v) M := sorry

theorem sC_cp {o d e i j n : Nat} {sg : Nat → Nat → Int32} {M : gMem} (hd : d < 86) (he : e < 86) : cpI (sC o sg M) (o + d) i (o + e) j n = sC o (up1 sg e (va_cpy (sg d) (sg e) i j n)) M := sorry

theorem sC_self (o : Nat) (M : gMem) : sC o (fun d k => mI M (o + d) k) M = M := sorry

theorem LC_s {o : Nat} {sg : Nat → Nat → Int32} {M : gMem} (h : LC o M) : LC o (sC o sg M) := sorry

theorem cT0 {o : Nat} {sg : Nat → Nat → Int32} {M : gMem} (L : LC o M) : mT (sC o sg M) o = 7 := sorry

theorem cT1 {o : Nat} {sg : Nat → Nat → Int32} {M : gMem} (L : LC o M) : mT (sC o sg M) (o + 1) = 23 := sorry

theorem cL1 {o : Nat} {sg : Nat → Nat → Int32} {M : gMem} (L : LC o M) : mL (sC o sg M) (o + 1) = 8 := sorry

theorem cT2 {o : Nat} {sg : Nat → Nat → Int32} {M : gMem} (L : LC o M) : mT (sC o sg M) (o + 2) = 24 := sorry

theorem cL2 {o : Nat} {sg : Nat → Nat → Int32} {M : gMem} (L : LC o M) : mL (sC o sg M) (o + 2) = 8 := sorry

theorem cT3 {o : Nat} {sg : Nat → Nat → Int32} {M : gMem} (L : LC o M) : mT (sC o sg M) (o + 3) = 25 := sorry

theorem cL3 {o : Nat} {sg : Nat → Nat → Int32} {M : gMem} (L : LC o M) : mL (sC o sg M) (o + 3) = 24 := sorry

theorem cT4 {o : Nat} {sg : Nat → Nat → Int32} {M : gMem} (L : LC o M) : mT (sC o sg M) (o + 4) = 26 := sorry

theorem cL4 {o : Nat} {sg : Nat → Nat → Int32} {M : gMem} (L : LC o M) : mL (sC o sg M) (o + 4) = 6 := sorry

theorem cT5 {o : Nat} {sg : Nat → Nat → Int32} {M : gMem} (L : LC o M) : mT (sC o sg M) (o + 5) = 8 := sorry

theorem cT6 {o : Nat} {sg : Nat → Nat → Int32} {M : gMem} (L : LC o M) : mT (sC o sg M) (o + 6) = 27 := sorry

theorem cL6 {o : Nat} {sg : Nat → Nat → Int32} {M : gMem} (L : LC o M) : mL (sC o sg M) (o + 6) = 400 := sorry

theorem cT7 {o : Nat} {sg : Nat → Nat → Int32} {M : gMem} (L : LC o M) : mT (sC o sg M) (o + 7) = 20 := sorry

theorem cL7 {o : Nat} {sg : Nat → Nat → Int32} {M : gMem} (L : LC o M) : mL (sC o sg M) (o + 7) = 400 := sorry

theorem cT8 {o : Nat} {sg : Nat → Nat → Int32} {M : gMem} (L : LC o M) : mT (sC o sg M) (o + 8) = 20 := sorry

theorem cL8 {o : Nat} {sg : Nat → Nat → Int32} {M : gMem} (L : LC o M) : mL (sC o sg M) (o + 8) = 400 := sorry

theorem cT9 {o : Nat} {sg : Nat → Nat → Int32} {M : gMem} (L : LC o M) : mT (sC o sg M) (o + 9) = 20 := sorry

theorem cL9 {o : Nat} {sg : Nat → Nat → Int32} {M : gMem} (L : LC o M) : mL (sC o sg M) (o + 9) = 8 := sorry

theorem cT10 {o : Nat} {sg : Nat → Nat → Int32} {M : gMem} (L : LC o M) : mT (sC o sg M) (o + 10) = 20 := sorry

theorem cL10 {o : Nat} {sg : Nat → Nat → Int32} {M : gMem} (L : LC o M) : mL (sC o sg M) (o + 10) = 8 := sorry

theorem cT11 {o : Nat} {sg : Nat → Nat → Int32} {M : gMem} (L : LC o M) : mT (sC o sg M) (o + 11) = 20 := sorry

theorem cL11 {o : Nat} {sg : Nat → Nat → Int32} {M : gMem} (L : LC o M) : mL (sC o sg M) (o + 11) = 6 := sorry

theorem cT12 {o : Nat} {sg : Nat → Nat → Int32} {M : gMem} (L : LC o M) : mT (sC o sg M) (o + 12) = 3 := sorry

theorem cT13 {o : Nat} {sg : Nat → Nat → Int32} {M : gMem} (L : LC o M) : mT (sC o sg M) (o + 13) = 20 := sorry

theorem cL13 {o : Nat} {sg : Nat → Nat → Int32} {M : gMem} (L : LC o M) : mL (sC o sg M) (o + 13) = 6 := sorry

theorem cT14 {o : Nat} {sg : Nat → Nat → Int32} {M : gMem} (L : LC o M) : mT (sC o sg M) (o + 14) = 1 := sorry

theorem cT15 {o : Nat} {sg : Nat → Nat → Int32} {M : gMem} (L : LC o M) : mT (sC o sg M) (o + 15) = 20 := sorry

theorem cL15 {o : Nat} {sg : Nat → Nat → Int32} {M : gMem} (L : LC o M) : mL (sC o sg M) (o + 15) = 8 := sorry

theorem cT16 {o : Nat} {sg : Nat → Nat → Int32} {M : gMem} (L : LC o M) : mT (sC o sg M) (o + 16) = 5 := sorry

theorem cT17 {o : Nat} {sg : Nat → Nat → Int32} {M : gMem} (L : LC o M) : mT (sC o sg M) (o + 17) = 20 := sorry

theorem cL17 {o : Nat} {sg : Nat → Nat → Int32} {M : gMem} (L : LC o M) : mL (sC o sg M) (o + 17) = 8 := sorry

theorem cR0_6 {o : Nat} {sg : Nat → Nat → Int32} {M : gMem} (L : LC o M) : mR (sC o sg M) o 6 = some (o + 1) := sorry

theorem cR0_7 {o : Nat} {sg : Nat → Nat → Int32} {M : gMem} (L : LC o M) : mR (sC o sg M) o 7 = some (o + 2) := sorry

theorem cR0_8 {o : Nat} {sg : Nat → Nat → Int32} {M : gMem} (L : LC o M) : mR (sC o sg M) o 8 = some (o + 3) := sorry

theorem cR0_9 {o : Nat} {sg : Nat → Nat → Int32} {M : gMem} (L : LC o M) : mR (sC o sg M) o 9 = some (o + 4) := sorry

theorem cR0_10 {o : Nat} {sg : Nat → Nat → Int32} {M : gMem} (L : LC o M) : mR (sC o sg M) o 10 = some (o + 5) := sorry

theorem cR0_11 {o : Nat} {sg : Nat → Nat → Int32} {M : gMem} (L : LC o M) : mR (sC o sg M) o 11 = some (o + 9) := sorry

theorem cR0_12 {o : Nat} {sg : Nat → Nat → Int32} {M : gMem} (L : LC o M) : mR (sC o sg M) o 12 = some (o + 10) := sorry

theorem cR0_13 {o : Nat} {sg : Nat → Nat → Int32} {M : gMem} (L : LC o M) : mR (sC o sg M) o 13 = some (o + 11) := sorry

theorem cR0_14 {o : Nat} {sg : Nat → Nat → Int32} {M : gMem} (L : LC o M) : mR (sC o sg M) o 14 = some (o + 12) := sorry

theorem cR0_15 {o : Nat} {sg : Nat → Nat → Int32} {M : gMem} (L : LC o M) : mR (sC o sg M) o 15 = some (o + 14) := sorry

theorem cR0_16 {o : Nat} {sg : Nat → Nat → Int32} {M : gMem} (L : LC o M) : mR (sC o sg M) o 16 = some (o + 16) := sorry

theorem cR5_1 {o : Nat} {sg : Nat → Nat → Int32} {M : gMem} (L : LC o M) : mR (sC o sg M) (o + 5) 1 = some (o + 6) := sorry

theorem cR5_2 {o : Nat} {sg : Nat → Nat → Int32} {M : gMem} (L : LC o M) : mR (sC o sg M) (o + 5) 2 = some (o + 7) := sorry

theorem cR5_3 {o : Nat} {sg : Nat → Nat → Int32} {M : gMem} (L : LC o M) : mR (sC o sg M) (o + 5) 3 = some (o + 8) := sorry

theorem cR12_3 {o : Nat} {sg : Nat → Nat → Int32} {M : gMem} (L : LC o M) : mR (sC o sg M) (o + 12) 3 = some (o + 13) := sorry

theorem cR14_10 {o : Nat} {sg : Nat → Nat → Int32} {M : gMem} (L : LC o M) : mR (sC o sg M) (o + 14) 10 = some (o + 15) := sorry

theorem cR16_4 {o : Nat} {sg : Nat → Nat → Int32} {M : gMem} (L : LC o M) : mR (sC o sg M) (o + 16) 4 = some (o + 17) := sorry

theorem cTg {o i : Nat} {sg : Nat → Nat → Int32} {M : gMem} (L : LC o M) (h : i < 8) : mT (sC o sg M) (o + (18 + 2 * i)) = 3 := sorry

theorem cRg {o i : Nat} {sg : Nat → Nat → Int32} {M : gMem} (L : LC o M) (h : i < 8) : mR (sC o sg M) (o + (18 + 2 * i)) 3 = some (o + (19 + 2 * i)) := sorry

theorem cTgf {o i : Nat} {sg : Nat → Nat → Int32} {M : gMem} (L : LC o M) (h : i < 8) : mT (sC o sg M) (o + (19 + 2 * i)) = 20 := sorry

theorem cLgf {o i : Nat} {sg : Nat → Nat → Int32} {M : gMem} (L : LC o M) (h : i < 8) : mL (sC o sg M) (o + (19 + 2 * i)) = 6 := sorry

theorem cTf {o i : Nat} {sg : Nat → Nat → Int32} {M : gMem} (L : LC o M) (h : i < 8) : mT (sC o sg M) (o + (34 + 2 * i)) = 1 := sorry

theorem cRf {o i : Nat} {sg : Nat → Nat → Int32} {M : gMem} (L : LC o M) (h : i < 8) : mR (sC o sg M) (o + (34 + 2 * i)) 10 = some (o + (35 + 2 * i)) := sorry

theorem cTft {o i : Nat} {sg : Nat → Nat → Int32} {M : gMem} (L : LC o M) (h : i < 8) : mT (sC o sg M) (o + (35 + 2 * i)) = 20 := sorry

theorem cLft {o i : Nat} {sg : Nat → Nat → Int32} {M : gMem} (L : LC o M) (h : i < 8) : mL (sC o sg M) (o + (35 + 2 * i)) = 8 := sorry

theorem cTgo {o i : Nat} {sg : Nat → Nat → Int32} {M : gMem} (L : LC o M) (h : i < 24) : mT (sC o sg M) (o + (50 + i)) = 2 := sorry

theorem cTp {o i : Nat} {sg : Nat → Nat → Int32} {M : gMem} (L : LC o M) (h : i < 6) : mT (sC o sg M) (o + (74 + 2 * i)) = 5 := sorry

theorem cRp {o i : Nat} {sg : Nat → Nat → Int32} {M : gMem} (L : LC o M) (h : i < 6) : mR (sC o sg M) (o + (74 + 2 * i)) 4 = some (o + (75 + 2 * i)) := sorry

theorem cTpf {o i : Nat} {sg : Nat → Nat → Int32} {M : gMem} (L : LC o M) (h : i < 6) : mT (sC o sg M) (o + (75 + 2 * i)) = 20 := sorry

theorem cLpf {o i : Nat} {sg : Nat → Nat → Int32} {M : gMem} (L : LC o M) (h : i < 6) : mL (sC o sg M) (o + (75 + 2 * i)) = 8 := sorry

theorem cRrg {o k : Nat} {sg : Nat → Nat → Int32} {M : gMem} (L : LC o M) (h : k < 8) : mR (sC o sg M) (o + 1) k = some (o + (18 + 2 * k)) := sorry

theorem cRrf {o k : Nat} {sg : Nat → Nat → Int32} {M : gMem} (L : LC o M) (h : k < 8) : mR (sC o sg M) (o + 2) k = some (o + (34 + 2 * k)) := sorry

theorem cRrgo {o k : Nat} {sg : Nat → Nat → Int32} {M : gMem} (L : LC o M) (h : k < 24) : mR (sC o sg M) (o + 3) k = some (o + (50 + k)) := sorry

theorem cRrp {o k : Nat} {sg : Nat → Nat → Int32} {M : gMem} (L : LC o M) (h : k < 6) : mR (sC o sg M) (o + 4) k = some (o + (74 + 2 * k)) := sorry
