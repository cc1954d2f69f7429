/-! ## Pure: the class is made, and both begin -/
def tpT (d : Nat) : Nat := [9, 22, 27, 20, 21].getD d 0
def tpL (d : Nat) : Nat := [0, 2000, 401, 401, 401].getD d 0
def rTp (p n : Nat) (w : Nat → Option Nat) (d k : Nat) : Option Nat := if d = 2 then w k else if d = 0 ∧ 1 ≤ k ∧ k < n then some (p + k) else none
def tpS (p n : Nat) (w : Nat → Option Nat) (M : gMem) : gMem := mkB p n tpT tpL (fun _ _ => 0) (rTp p n w) M
theorem tp_s {p n t l : Nat} {w : Nat → Option Nat} {M : gMem} {K : gMem → Option (Unit × gMem)} (h1 : 1 ≤ n) (ht : tpT n = t) (hl : tpL n = l) (h2 : n = 2 → w = fun _ => none) : (lw (nW (tpS p n w M) t l) fun M1 => ck (mT M1 p = 9) <| lw (wR M1 p n (some (mN (tpS p n w M)))) K) = K (tpS p (n + 1) w M) := sorry

theorem X10_new {Z : Nat → Nat} {M : gMem} {p : Nat} (e : mN M = p) : ∃ w, f_X10_init Z (nW M 9 0) p = some ((), tpS p 5 w M) := sorry

theorem sh_o {o n a : Nat} {w : Nat → Option Nat} {P : Nat → Prop} {M : gMem} (h : a < o ∨ o + n ≤ a) : mT (shS o n w P M) a = mT M a ∧ mL (shS o n w P M) a = mL M a ∧ mR (shS o n w P M) a = mR M a ∧ mI (shS o n w P M) a = mI M a := sorry

theorem sh_LC {o : Nat} {w : Nat → Option Nat} {M : gMem} : LC o (shS o 86 w (fun x => x < 86) M) := sorry

theorem sh_i {o d : Nat} {w : Nat → Option Nat} {P : Nat → Prop} {M : gMem} (h : d < 86) : mI (shS o 86 w P M) (o + d) = IN d := sorry

theorem IN_FRS {o : Nat} {X : gMem} (h : ∀ d, 12 ≤ d → d < 18 → mI X (o + d) = IN d) : FRS o X := sorry

theorem IN_PSz {o : Nat} {X : gMem} (h : ∀ d, 74 ≤ d → d < 86 → mI X (o + d) = IN d) : PSz o X := sorry

/-- a new object of the class -/
theorem X11_new {Z : Nat → Nat} {M : gMem} {b : Nat} (e : mN M = b) : ∃ X, f_X11_init Z (nW M 10 0) b = some ((), X) ∧ mN X = b + 178 ∧ (∀ a, a < b → mT X a = mT M a ∧ mL X a = mL M a ∧ mR X a = mR M a ∧ mI X a = mI M a) ∧ (∀ T, CIv b (b + 6) (b + 92) 0 T X) ∧ mI X b 3 = -1 ∧ ∀ d, d < 86 → mI X (b + 6 + d) = IN d := sorry
