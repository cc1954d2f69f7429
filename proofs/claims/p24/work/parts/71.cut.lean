/-! ## Pure: the reference cuts its tape -/
/-- the model's tape and rows at m -/
def MP (m n : Nat) (T : Nat → Nat) (M : gMem) (I : Nat → Nat → Int32) (R : Nat → Nat → Option Nat) : Prop :=
  (mT M m = 13 ∧ (∀ j, 1 ≤ j → j < 7 → mT M (m + j) = 20) ∧ mL M (m + 1) = 2000 ∧ ∀ j, 2 ≤ j → j < 7 → mL M (m + j) = 401) ∧
  (R m 1 = some (m + 1) ∧ R m 4 = some (m + 2) ∧ R m 5 = some (m + 3) ∧ R m 6 = some (m + 4) ∧ R m 7 = some (m + 5) ∧ R m 8 = some (m + 6)) ∧ I m 2 = nI n ∧ n ≤ 2000 ∧ ∀ q, q < n → I (m + 1) q = nI (T q) ∧ T q < 256
theorem MP_I {m n : Nat} {T : Nat → Nat} {M : gMem} {I I' : Nat → Nat → Int32} {R : Nat → Nat → Option Nat} (P : MP m n T M I R) (h0 : I' m 2 = I m 2) (h1 : ∀ q, q < n → I' (m + 1) q = I (m + 1) q) : MP m n T M I' R := sorry

/-- the byte at a place as the reference has it, -1 behind the end -/
def tm (T : Nat → Nat) (n q : Nat) : Int32 := if q < n then nI (T q) else -1
theorem tm_1 : ∀ x, x < 256 → ((nI x < (97 : Int32) ∨ (122 : Int32) < nI x) ↔ isL x = false) ∧ ((nI x < (48 : Int32) ∨ (57 : Int32) < nI x) ↔ isD x = false) ∧ (nI x = (32 : Int32) ↔ x = 32) ∧ (nI x = (10 : Int32) ↔ x = 10) ∧ ¬ nI x = (-1 : Int32) := sorry

/-- whether the k-th word of the reference stands at a -/
def mw (T : Nat → Nat) (a l k : Nat) : Bool := decide (sLn (45 + k) = l) && alN (fun j => decide (sBy (45 + k) j = nI (T (a + j)))) l 0
theorem sw_1 : ∀ k, k < 25 → sLn k = sLn (45 + k) ∧ ∀ j, j < 14 → sBy k j = sBy (45 + k) j := sorry

theorem sw_3 : ∀ i, i < 71 → ∀ j, j < 14 → (sBy i j).toNatClampNeg < 128 ∧ sBy i j = nI ((sBy i j).toNatClampNeg) := sorry

theorem sB_neg : ∀ x, x < 256 → 128 ≤ x → sB x < 0 := sorry

theorem sB_c {x c : Nat} (hx : x < 256) (hc : c < 128) : sB x = nI c ↔ x = c := sorry

theorem sw_2 (i : Nat) (hi : i < 71) (j : Nat) (hj : j < 14) (x : Nat) (hx : x < 256) : sB x = sBy i j ↔ sBy i j = nI x := sorry

theorem mw_mt {T : Nat → Nat} {n a l k : Nat} (hk : k < 25) (hl : a + l ≤ n) (hT : ∀ q, q < n → T q < 256) : mt T n a l k = mw T a l k := sorry

/-- the reference's kind of a sign -/
def mk (g : Nat) : Nat := if g ≤ 24 ∨ g = 40 ∨ g = 41 then g else if g = 38 then 300 else if g = 39 then 301 else if g = 42 then 900 else if g = 43 then 901 else 50 + (sBy g 0).toNatClampNeg
/-- signs of one byte -/
def sg1 (x : Nat) : Option Nat := fndN (fun i => decide (sLn i = 1) && decide (sB x = sBy i 0)) 45 0
theorem sg1_1 : ∀ x, x < 256 → ((sg1 x = none) ↔ (x = 0 ∨ 128 ≤ x ∨ fndN (fun j => decide (sBy 70 j = nI x)) 13 0 = none)) ∧ (match sg1 x with | some i => decide (mk i = 50 + x) | none => true) = true := sorry

theorem sg2_0 : ∀ i, i < 45 → sLn i = 2 → isL ((sBy i 0).toNatClampNeg) = true ∨ (i = 38 ∧ (sBy i 0).toNatClampNeg = 60) ∨ (i = 39 ∧ (sBy i 0).toNatClampNeg = 62) := sorry

theorem sg2_1 (x : Nat) (hx : x < 256) (hL : isL x = false) (i : Nat) (hi : i < 45) (h2 : sLn i = 2) (h : sB x = sBy i 0) : (i = 38 ∧ x = 60) ∨ (i = 39 ∧ x = 62) := sorry

theorem sg3_0 : ∀ i, i < 45 → 25 ≤ i → isL ((sBy i 0).toNatClampNeg) = false := sorry

theorem mt1_e {T : Nat → Nat} {n a : Nat} (h : a < n) : fndN (mt T n a 1) 45 0 = sg1 (T a) := sorry

theorem mt2_e {T : Nat → Nat} {n a : Nat} (h : a < n) (hx : T a < 256) (hL : isL (T a) = false) (h1 : a + 1 < n → T (a + 1) < 256) : fndN (mt T n a 2) 45 0 = if (T a = 60 ∨ T a = 62) ∧ a + 1 < n ∧ T (a + 1) = 61 then (if T a = 60 then some 38 else some 39) else none := sorry

theorem stp_1 {P : Nat → Bool} {T : Nat → Nat} {n a : Nat} (h : a < n) (hP : P (T a) = true) : stp P T (n - a) a = stp P T (n - (a + 1)) (a + 1) := sorry
