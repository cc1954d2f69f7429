/-! ## Pure: sums -/
noncomputable def cmbN (g : Nat) (a b : Int32) : Int32 :=
  if gSw g = 8 then (if b ≤ a then 0 else 1) else if gSw g = 9 then (if a ≤ b then 0 else 1) else if gSw g = 10 then (if a = b then 1 else 0) else if gSw g = 11 then (if b < a then 0 else 1) else if gSw g = 12 then (if a < b then 0 else 1)
  else if gSw g = 20 then a - b else if gSw g = 22 then imin a b else if gSw g = 23 then imax a b else if gSw g = 25 then a + b else if gSw g = 26 then a * b else if gSw g = 27 then (if b = 0 then 0 else a / b) else if gSw g = 28 then a &&& b else if gSw g = 29 then a ||| b else 0
theorem s9_combine {Z : Nat → Nat} {M : gMem} {r : Option Nat} {g : Nat} {a b : Int32} (h : ordZ Z r = some g) : f_X9_combine Z M r a b = some (cmbN g a b, M) := sorry

noncomputable def valN (sg : Nat → Nat → Int32) (g : Nat) (v : Int32) : Int32 :=
  if gSw g = 7 then (if sg (34 + 2 * v.toNatClampNeg) 9 = 0 then 0 else 1) else if gSw g = 14 then sg 0 0 else if gSw g = 15 then sg (34 + 2 * v.toNatClampNeg) 4 else if gSw g = 16 then sg (34 + 2 * v.toNatClampNeg) 5 else if gSw g = 17 then sg (34 + 2 * v.toNatClampNeg) 1 else if gSw g = 18 then sum5 (sg (19 + 2 * v.toNatClampNeg)) 5 else if gSw g = 19 then sg (18 + 2 * v.toNatClampNeg) 1 else v
/-- a value that speaks of a fisher or a ground speaks of one of the eight -/
def valOK (g : Nat) (v : Int32) : Prop := (gSw g = 7 ∨ gSw g = 15 ∨ gSw g = 16 ∨ gSw g = 17 ∨ gSw g = 18 ∨ gSw g = 19) → ∃ j : Nat, j < 8 ∧ v = nI j
theorem s9_valueOn {Z : Nat → Nat} {M : gMem} {o : Nat} {sg : Nat → Nat → Int32} {r : Option Nat} {g : Nat} {v : Int32} (L : LC o M) (h : ordZ Z r = some g) (hv : valOK g v) : f_X9_valueOn Z (sC o sg M) (some o) r v = some (valN sg g v, sC o sg M) := sorry

theorem ordZ_e {Z : Nat → Nat} {g : Nat} (hZ : ∀ a b : Nat, a < 45 → b < 45 → Z a = Z b → a = b) (h : g < 45) : ordZ Z (some (Z g)) = some g := sorry

abbrev isPush (g : Nat) : Prop := gSw g = 7 ∨ gSw g = 13 ∨ gSw g = 14 ∨ gSw g = 15 ∨ gSw g = 16 ∨ gSw g = 17 ∨ gSw g = 18 ∨ gSw g = 19
abbrev isUn (g : Nat) : Prop := gSw g = 5 ∨ gSw g = 24
/-- one sign of a sum: the ints (the stack is at 8) and the number of values on the stack -/
noncomputable def rk1 (pg : Nat → Nat) (i : Nat) (q : (Nat → Nat → Int32) × Nat) : (Nat → Nat → Int32) × Nat :=
  if isPush (pg i) then (up2 q.1 8 q.2 (valN q.1 (pg i) (q.1 7 i)), q.2 + 1)
  else if isUn (pg i) then (if q.2 < 1 then q else (up2 q.1 8 (q.2 - 1) (if pg i = 20 then nI 1 - q.1 8 (q.2 - 1) else - q.1 8 (q.2 - 1)), q.2))
  else (if q.2 < 2 then q else (up2 q.1 8 (q.2 - 2) (cmbN (pg i) (q.1 8 (q.2 - 2)) (q.1 8 (q.2 - 1))), q.2 - 1))
noncomputable def rkN (pg : Nat → Nat) (st : Nat) (sg : Nat → Nat → Int32) : Nat → (Nat → Nat → Int32) × Nat
  | 0 => (sg, 0)
  | j + 1 => rk1 pg (st + j) (rkN pg st sg j)
theorem rkN_o {pg : Nat → Nat} {st : Nat} {sg : Nat → Nat → Int32} {d : Nat} (h : d ≠ 8) : ∀ j, (rkN pg st sg j).1 d = sg d := sorry

theorem rkN_top {pg : Nat → Nat} {st : Nat} {sg : Nat → Nat → Int32} : ∀ j, (rkN pg st sg j).2 ≤ j := sorry

noncomputable def rkV (pg : Nat → Nat) (st : Nat) (sg : Nat → Nat → Int32) (n : Nat) : Int32 := if (rkN pg st sg n).2 = 0 then 0 else (rkN pg st sg n).1 8 0

