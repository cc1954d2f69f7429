/-! ## Pure: a Shore at o: its 86 cells by their offsets -/
def layT (d : Nat) : Nat :=
  if d < 18 then [7, 23, 24, 25, 26, 8, 27, 20, 20, 20, 20, 20, 3, 20, 1, 20, 5, 20].getD d 0
  else if d < 34 then (if d % 2 = 0 then 3 else 20)
  else if d < 50 then (if d % 2 = 0 then 1 else 20)
  else if d < 74 then 2
  else (if d % 2 = 0 then 5 else 20)
def layL (d : Nat) : Nat :=
  if d < 18 then [0, 8, 8, 24, 6, 0, 400, 400, 400, 8, 8, 6, 0, 6, 0, 8, 0, 8].getD d 0
  else if d < 34 then (if d % 2 = 0 then 0 else 6)
  else if d < 50 then (if d % 2 = 0 then 0 else 8)
  else if d < 74 then 0
  else (if d % 2 = 0 then 0 else 8)
def layR (d k : Nat) : Option Nat :=
  if d = 0 then (if k < 6 then none else [1, 2, 3, 4, 5, 9, 10, 11, 12, 14, 16][k - 6]?)
  else if d = 1 then (if k < 8 then some (18 + 2 * k) else none)
  else if d = 2 then (if k < 8 then some (34 + 2 * k) else none)
  else if d = 3 then (if k < 24 then some (50 + k) else none)
  else if d = 4 then (if k < 6 then some (74 + 2 * k) else none)
  else if d = 5 then (if k = 1 then some 6 else if k = 2 then some 7 else if k = 3 then some 8 else none)
  else if d = 12 then (if k = 3 then some 13 else none)
  else if d = 14 then (if k = 10 then some 15 else none)
  else if d = 16 then (if k = 4 then some 17 else none)
  else if 18 ≤ d ∧ d < 34 ∧ d % 2 = 0 then (if k = 3 then some (d + 1) else none)
  else if 34 ≤ d ∧ d < 50 ∧ d % 2 = 0 then (if k = 10 then some (d + 1) else none)
  else if 74 ≤ d ∧ d < 86 ∧ d % 2 = 0 then (if k = 4 then some (d + 1) else none)
  else none
/-- the memory has a Shore at o (the row of signs of its Sums aside, which changes) -/
def LC (o : Nat) (M : gMem) : Prop := ∀ d : Nat, d < 86 → mT M (o + d) = layT d ∧ mL M (o + d) = layL d ∧ (d ≠ 6 → ∀ k : Nat, mR M (o + d) k = (layR d k).map (o + ·))
/-- the memory with the ints sg in the Shore at o -/
def sC (o : Nat) (sg : Nat → Nat → Int32) (M : gMem) : gMem := sI M (fun a k => if o ≤ a ∧ a < o + 86 then sg (a - o) k else mI M a k)
theorem sC_I {o d k : Nat} {sg : Nat → Nat → Int32} {M : gMem} (h : d < 86) : mI (sC o sg M) (o + d) k = sg d k := by
  show (if o ≤ o + d ∧ o + d < o + 86 then sg (o + d - o) k else mI M (o + d) k) = sg d k
  rw [if_pos ⟨by omega, by omega⟩, Nat.add_sub_cancel_left]
theorem sC_I0 {o k : Nat} {sg : Nat → Nat → Int32} {M : gMem} : mI (sC o sg M) o k = sg 0 k := sC_I (d := 0) (by omega)
theorem sC_Io {o a k : Nat} {sg : Nat → Nat → Int32} {M : gMem} (h : a < o ∨ o + 86 ≤ a) : mI (sC o sg M) a k = mI M a k := if_neg (by omega)
theorem sC_W {o d k : Nat} {v : Int32} {sg : Nat → Nat → Int32} {M : gMem} (h : d < 86) : wI (sC o sg M) (o + d) k v = sC o (up2 sg d k v) M := by
  unfold sC
  rw [wI_sI, sI_sI]
  congr 1
  funext a j
  show (if a = o + d ∧ j = k then v else if o ≤ a ∧ a < o + 86 then sg (a - o) j else mI M a j) = (if o ≤ a ∧ a < o + 86 then (if a - o = d ∧ j = k then v else sg (a - o) j) else mI M a j)
  by_cases h1 : a = o + d ∧ j = k
  · rw [if_pos h1, if_pos (by omega), if_pos ⟨by omega, h1.2⟩]
  · rw [if_neg h1]
    by_cases h2 : o ≤ a ∧ a < o + 86
    · rw [if_pos h2, if_pos h2, if_neg (by intro q; exact h1 ⟨by omega, q.2⟩)]
    · rw [if_neg h2, if_neg h2]
theorem sC_W0 {o k : Nat} {v : Int32} {sg : Nat → Nat → Int32} {M : gMem} : wI (sC o sg M) o k v = sC o (up2 sg 0 k v) M := sC_W (d := 0) (by omega)
theorem sC_cp {o d e i j n : Nat} {sg : Nat → Nat → Int32} {M : gMem} (hd : d < 86) (he : e < 86) : cpI (sC o sg M) (o + d) i (o + e) j n = sC o (up1 sg e (va_cpy (sg d) (sg e) i j n)) M := by
  have e1 : ∀ x, x < 86 → mI (sC o sg M) (o + x) = sg x := fun x hx => funext fun k => sC_I hx
  unfold cpI
  rw [e1 d hd, e1 e he]
  unfold sC sI
  congr 3
  funext a k
  show up1 (fun a k => if o ≤ a ∧ a < o + 86 then sg (a - o) k else mI M a k) (o + e) (va_cpy (sg d) (sg e) i j n) a k = if o ≤ a ∧ a < o + 86 then up1 sg e (va_cpy (sg d) (sg e) i j n) (a - o) k else mI M a k
  by_cases h1 : a = o + e
  · subst h1
    rw [if_pos ⟨by omega, by omega⟩, Nat.add_sub_cancel_left]
    simp [up1]
  · rw [up1_o h1]
    by_cases h2 : o ≤ a ∧ a < o + 86
    · rw [if_pos h2, if_pos h2, up1_o (by omega)]
    · rw [if_neg h2, if_neg h2]
theorem sC_self (o : Nat) (M : gMem) : sC o (fun d k => mI M (o + d) k) M = M := by
  unfold sC
  have : (fun a k => if o ≤ a ∧ a < o + 86 then mI M (o + (a - o)) k else mI M a k) = mI M := by
    funext a k
    by_cases h : o ≤ a ∧ a < o + 86
    · rw [if_pos h, show o + (a - o) = a by omega]
    · rw [if_neg h]
  rw [this]; rfl
theorem LC_s {o : Nat} {sg : Nat → Nat → Int32} {M : gMem} (h : LC o M) : LC o (sC o sg M) := h
theorem cT0 {o : Nat} {sg : Nat → Nat → Int32} {M : gMem} (L : LC o M) : mT (sC o sg M) o = 7 := (L 0 (by omega)).1
theorem cT1 {o : Nat} {sg : Nat → Nat → Int32} {M : gMem} (L : LC o M) : mT (sC o sg M) (o + 1) = 23 := (L 1 (by omega)).1
theorem cL1 {o : Nat} {sg : Nat → Nat → Int32} {M : gMem} (L : LC o M) : mL (sC o sg M) (o + 1) = 8 := (L 1 (by omega)).2.1
theorem cT2 {o : Nat} {sg : Nat → Nat → Int32} {M : gMem} (L : LC o M) : mT (sC o sg M) (o + 2) = 24 := (L 2 (by omega)).1
theorem cL2 {o : Nat} {sg : Nat → Nat → Int32} {M : gMem} (L : LC o M) : mL (sC o sg M) (o + 2) = 8 := (L 2 (by omega)).2.1
theorem cT3 {o : Nat} {sg : Nat → Nat → Int32} {M : gMem} (L : LC o M) : mT (sC o sg M) (o + 3) = 25 := (L 3 (by omega)).1
theorem cL3 {o : Nat} {sg : Nat → Nat → Int32} {M : gMem} (L : LC o M) : mL (sC o sg M) (o + 3) = 24 := (L 3 (by omega)).2.1
theorem cT4 {o : Nat} {sg : Nat → Nat → Int32} {M : gMem} (L : LC o M) : mT (sC o sg M) (o + 4) = 26 := (L 4 (by omega)).1
theorem cL4 {o : Nat} {sg : Nat → Nat → Int32} {M : gMem} (L : LC o M) : mL (sC o sg M) (o + 4) = 6 := (L 4 (by omega)).2.1
theorem cT5 {o : Nat} {sg : Nat → Nat → Int32} {M : gMem} (L : LC o M) : mT (sC o sg M) (o + 5) = 8 := (L 5 (by omega)).1
theorem cT6 {o : Nat} {sg : Nat → Nat → Int32} {M : gMem} (L : LC o M) : mT (sC o sg M) (o + 6) = 27 := (L 6 (by omega)).1
theorem cL6 {o : Nat} {sg : Nat → Nat → Int32} {M : gMem} (L : LC o M) : mL (sC o sg M) (o + 6) = 400 := (L 6 (by omega)).2.1
theorem cT7 {o : Nat} {sg : Nat → Nat → Int32} {M : gMem} (L : LC o M) : mT (sC o sg M) (o + 7) = 20 := (L 7 (by omega)).1
theorem cL7 {o : Nat} {sg : Nat → Nat → Int32} {M : gMem} (L : LC o M) : mL (sC o sg M) (o + 7) = 400 := (L 7 (by omega)).2.1
theorem cT8 {o : Nat} {sg : Nat → Nat → Int32} {M : gMem} (L : LC o M) : mT (sC o sg M) (o + 8) = 20 := (L 8 (by omega)).1
theorem cL8 {o : Nat} {sg : Nat → Nat → Int32} {M : gMem} (L : LC o M) : mL (sC o sg M) (o + 8) = 400 := (L 8 (by omega)).2.1
theorem cT9 {o : Nat} {sg : Nat → Nat → Int32} {M : gMem} (L : LC o M) : mT (sC o sg M) (o + 9) = 20 := (L 9 (by omega)).1
theorem cL9 {o : Nat} {sg : Nat → Nat → Int32} {M : gMem} (L : LC o M) : mL (sC o sg M) (o + 9) = 8 := (L 9 (by omega)).2.1
theorem cT10 {o : Nat} {sg : Nat → Nat → Int32} {M : gMem} (L : LC o M) : mT (sC o sg M) (o + 10) = 20 := (L 10 (by omega)).1
theorem cL10 {o : Nat} {sg : Nat → Nat → Int32} {M : gMem} (L : LC o M) : mL (sC o sg M) (o + 10) = 8 := (L 10 (by omega)).2.1
theorem cT11 {o : Nat} {sg : Nat → Nat → Int32} {M : gMem} (L : LC o M) : mT (sC o sg M) (o + 11) = 20 := (L 11 (by omega)).1
theorem cL11 {o : Nat} {sg : Nat → Nat → Int32} {M : gMem} (L : LC o M) : mL (sC o sg M) (o + 11) = 6 := (L 11 (by omega)).2.1
theorem cT12 {o : Nat} {sg : Nat → Nat → Int32} {M : gMem} (L : LC o M) : mT (sC o sg M) (o + 12) = 3 := (L 12 (by omega)).1
theorem cT13 {o : Nat} {sg : Nat → Nat → Int32} {M : gMem} (L : LC o M) : mT (sC o sg M) (o + 13) = 20 := (L 13 (by omega)).1
theorem cL13 {o : Nat} {sg : Nat → Nat → Int32} {M : gMem} (L : LC o M) : mL (sC o sg M) (o + 13) = 6 := (L 13 (by omega)).2.1
theorem cT14 {o : Nat} {sg : Nat → Nat → Int32} {M : gMem} (L : LC o M) : mT (sC o sg M) (o + 14) = 1 := (L 14 (by omega)).1
theorem cT15 {o : Nat} {sg : Nat → Nat → Int32} {M : gMem} (L : LC o M) : mT (sC o sg M) (o + 15) = 20 := (L 15 (by omega)).1
theorem cL15 {o : Nat} {sg : Nat → Nat → Int32} {M : gMem} (L : LC o M) : mL (sC o sg M) (o + 15) = 8 := (L 15 (by omega)).2.1
theorem cT16 {o : Nat} {sg : Nat → Nat → Int32} {M : gMem} (L : LC o M) : mT (sC o sg M) (o + 16) = 5 := (L 16 (by omega)).1
theorem cT17 {o : Nat} {sg : Nat → Nat → Int32} {M : gMem} (L : LC o M) : mT (sC o sg M) (o + 17) = 20 := (L 17 (by omega)).1
theorem cL17 {o : Nat} {sg : Nat → Nat → Int32} {M : gMem} (L : LC o M) : mL (sC o sg M) (o + 17) = 8 := (L 17 (by omega)).2.1
theorem cR0_6 {o : Nat} {sg : Nat → Nat → Int32} {M : gMem} (L : LC o M) : mR (sC o sg M) o 6 = some (o + 1) := (L 0 (by omega)).2.2 (by omega) 6
theorem cR0_7 {o : Nat} {sg : Nat → Nat → Int32} {M : gMem} (L : LC o M) : mR (sC o sg M) o 7 = some (o + 2) := (L 0 (by omega)).2.2 (by omega) 7
theorem cR0_8 {o : Nat} {sg : Nat → Nat → Int32} {M : gMem} (L : LC o M) : mR (sC o sg M) o 8 = some (o + 3) := (L 0 (by omega)).2.2 (by omega) 8
theorem cR0_9 {o : Nat} {sg : Nat → Nat → Int32} {M : gMem} (L : LC o M) : mR (sC o sg M) o 9 = some (o + 4) := (L 0 (by omega)).2.2 (by omega) 9
theorem cR0_10 {o : Nat} {sg : Nat → Nat → Int32} {M : gMem} (L : LC o M) : mR (sC o sg M) o 10 = some (o + 5) := (L 0 (by omega)).2.2 (by omega) 10
theorem cR0_11 {o : Nat} {sg : Nat → Nat → Int32} {M : gMem} (L : LC o M) : mR (sC o sg M) o 11 = some (o + 9) := (L 0 (by omega)).2.2 (by omega) 11
theorem cR0_12 {o : Nat} {sg : Nat → Nat → Int32} {M : gMem} (L : LC o M) : mR (sC o sg M) o 12 = some (o + 10) := (L 0 (by omega)).2.2 (by omega) 12
theorem cR0_13 {o : Nat} {sg : Nat → Nat → Int32} {M : gMem} (L : LC o M) : mR (sC o sg M) o 13 = some (o + 11) := (L 0 (by omega)).2.2 (by omega) 13
theorem cR0_14 {o : Nat} {sg : Nat → Nat → Int32} {M : gMem} (L : LC o M) : mR (sC o sg M) o 14 = some (o + 12) := (L 0 (by omega)).2.2 (by omega) 14
theorem cR0_15 {o : Nat} {sg : Nat → Nat → Int32} {M : gMem} (L : LC o M) : mR (sC o sg M) o 15 = some (o + 14) := (L 0 (by omega)).2.2 (by omega) 15
theorem cR0_16 {o : Nat} {sg : Nat → Nat → Int32} {M : gMem} (L : LC o M) : mR (sC o sg M) o 16 = some (o + 16) := (L 0 (by omega)).2.2 (by omega) 16
theorem cR5_1 {o : Nat} {sg : Nat → Nat → Int32} {M : gMem} (L : LC o M) : mR (sC o sg M) (o + 5) 1 = some (o + 6) := (L 5 (by omega)).2.2 (by omega) 1
theorem cR5_2 {o : Nat} {sg : Nat → Nat → Int32} {M : gMem} (L : LC o M) : mR (sC o sg M) (o + 5) 2 = some (o + 7) := (L 5 (by omega)).2.2 (by omega) 2
theorem cR5_3 {o : Nat} {sg : Nat → Nat → Int32} {M : gMem} (L : LC o M) : mR (sC o sg M) (o + 5) 3 = some (o + 8) := (L 5 (by omega)).2.2 (by omega) 3
theorem cR12_3 {o : Nat} {sg : Nat → Nat → Int32} {M : gMem} (L : LC o M) : mR (sC o sg M) (o + 12) 3 = some (o + 13) := (L 12 (by omega)).2.2 (by omega) 3
theorem cR14_10 {o : Nat} {sg : Nat → Nat → Int32} {M : gMem} (L : LC o M) : mR (sC o sg M) (o + 14) 10 = some (o + 15) := (L 14 (by omega)).2.2 (by omega) 10
theorem cR16_4 {o : Nat} {sg : Nat → Nat → Int32} {M : gMem} (L : LC o M) : mR (sC o sg M) (o + 16) 4 = some (o + 17) := (L 16 (by omega)).2.2 (by omega) 4
theorem cTg {o i : Nat} {sg : Nat → Nat → Int32} {M : gMem} (L : LC o M) (h : i < 8) : mT (sC o sg M) (o + (18 + 2 * i)) = 3 := (L (18 + 2 * i) (by omega)).1.trans ((by decide : ∀ i, i < 8 → layT (18 + 2 * i) = 3) i h)
theorem cRg {o i : Nat} {sg : Nat → Nat → Int32} {M : gMem} (L : LC o M) (h : i < 8) : mR (sC o sg M) (o + (18 + 2 * i)) 3 = some (o + (19 + 2 * i)) := ((L (18 + 2 * i) (by omega)).2.2 (by omega) 3).trans (congrArg (Option.map (o + ·)) ((by decide : ∀ i, i < 8 → layR (18 + 2 * i) 3 = some (19 + 2 * i)) i h))
theorem cTgf {o i : Nat} {sg : Nat → Nat → Int32} {M : gMem} (L : LC o M) (h : i < 8) : mT (sC o sg M) (o + (19 + 2 * i)) = 20 := (L (19 + 2 * i) (by omega)).1.trans ((by decide : ∀ i, i < 8 → layT (19 + 2 * i) = 20) i h)
theorem cLgf {o i : Nat} {sg : Nat → Nat → Int32} {M : gMem} (L : LC o M) (h : i < 8) : mL (sC o sg M) (o + (19 + 2 * i)) = 6 := (L (19 + 2 * i) (by omega)).2.1.trans ((by decide : ∀ i, i < 8 → layL (19 + 2 * i) = 6) i h)
theorem cTf {o i : Nat} {sg : Nat → Nat → Int32} {M : gMem} (L : LC o M) (h : i < 8) : mT (sC o sg M) (o + (34 + 2 * i)) = 1 := (L (34 + 2 * i) (by omega)).1.trans ((by decide : ∀ i, i < 8 → layT (34 + 2 * i) = 1) i h)
theorem cRf {o i : Nat} {sg : Nat → Nat → Int32} {M : gMem} (L : LC o M) (h : i < 8) : mR (sC o sg M) (o + (34 + 2 * i)) 10 = some (o + (35 + 2 * i)) := ((L (34 + 2 * i) (by omega)).2.2 (by omega) 10).trans (congrArg (Option.map (o + ·)) ((by decide : ∀ i, i < 8 → layR (34 + 2 * i) 10 = some (35 + 2 * i)) i h))
theorem cTft {o i : Nat} {sg : Nat → Nat → Int32} {M : gMem} (L : LC o M) (h : i < 8) : mT (sC o sg M) (o + (35 + 2 * i)) = 20 := (L (35 + 2 * i) (by omega)).1.trans ((by decide : ∀ i, i < 8 → layT (35 + 2 * i) = 20) i h)
theorem cLft {o i : Nat} {sg : Nat → Nat → Int32} {M : gMem} (L : LC o M) (h : i < 8) : mL (sC o sg M) (o + (35 + 2 * i)) = 8 := (L (35 + 2 * i) (by omega)).2.1.trans ((by decide : ∀ i, i < 8 → layL (35 + 2 * i) = 8) i h)
theorem cTgo {o i : Nat} {sg : Nat → Nat → Int32} {M : gMem} (L : LC o M) (h : i < 24) : mT (sC o sg M) (o + (50 + i)) = 2 := (L (50 + i) (by omega)).1.trans ((by decide : ∀ i, i < 24 → layT (50 + i) = 2) i h)
theorem cTp {o i : Nat} {sg : Nat → Nat → Int32} {M : gMem} (L : LC o M) (h : i < 6) : mT (sC o sg M) (o + (74 + 2 * i)) = 5 := (L (74 + 2 * i) (by omega)).1.trans ((by decide : ∀ i, i < 6 → layT (74 + 2 * i) = 5) i h)
theorem cRp {o i : Nat} {sg : Nat → Nat → Int32} {M : gMem} (L : LC o M) (h : i < 6) : mR (sC o sg M) (o + (74 + 2 * i)) 4 = some (o + (75 + 2 * i)) := ((L (74 + 2 * i) (by omega)).2.2 (by omega) 4).trans (congrArg (Option.map (o + ·)) ((by decide : ∀ i, i < 6 → layR (74 + 2 * i) 4 = some (75 + 2 * i)) i h))
theorem cTpf {o i : Nat} {sg : Nat → Nat → Int32} {M : gMem} (L : LC o M) (h : i < 6) : mT (sC o sg M) (o + (75 + 2 * i)) = 20 := (L (75 + 2 * i) (by omega)).1.trans ((by decide : ∀ i, i < 6 → layT (75 + 2 * i) = 20) i h)
theorem cLpf {o i : Nat} {sg : Nat → Nat → Int32} {M : gMem} (L : LC o M) (h : i < 6) : mL (sC o sg M) (o + (75 + 2 * i)) = 8 := (L (75 + 2 * i) (by omega)).2.1.trans ((by decide : ∀ i, i < 6 → layL (75 + 2 * i) = 8) i h)
theorem cRrg {o k : Nat} {sg : Nat → Nat → Int32} {M : gMem} (L : LC o M) (h : k < 8) : mR (sC o sg M) (o + 1) k = some (o + (18 + 2 * k)) := ((L 1 (by omega)).2.2 (by omega) k).trans (congrArg (Option.map (o + ·)) ((by decide : ∀ k, k < 8 → layR 1 k = some (18 + 2 * k)) k h))
theorem cRrf {o k : Nat} {sg : Nat → Nat → Int32} {M : gMem} (L : LC o M) (h : k < 8) : mR (sC o sg M) (o + 2) k = some (o + (34 + 2 * k)) := ((L 2 (by omega)).2.2 (by omega) k).trans (congrArg (Option.map (o + ·)) ((by decide : ∀ k, k < 8 → layR 2 k = some (34 + 2 * k)) k h))
theorem cRrgo {o k : Nat} {sg : Nat → Nat → Int32} {M : gMem} (L : LC o M) (h : k < 24) : mR (sC o sg M) (o + 3) k = some (o + (50 + k)) := ((L 3 (by omega)).2.2 (by omega) k).trans (congrArg (Option.map (o + ·)) ((by decide : ∀ k, k < 24 → layR 3 k = some (50 + k)) k h))
theorem cRrp {o k : Nat} {sg : Nat → Nat → Int32} {M : gMem} (L : LC o M) (h : k < 6) : mR (sC o sg M) (o + 4) k = some (o + (74 + 2 * k)) := ((L 4 (by omega)).2.2 (by omega) k).trans (congrArg (Option.map (o + ·)) ((by decide : ∀ k, k < 6 → layR 4 k = some (74 + 2 * k)) k h))

