/-! ## Pure: a tide of the reference -/
theorem lp_ex {α β : Type} {f : α → Option (α ⊕ β)} (P : Nat → α → Prop) (n : Nat) (h : ∀ j a, j < n → P j a → ∃ a', f a = some (.inl a') ∧ P (j + 1) a') : ∀ d i a, i + d = n → P i a → ∃ a', P n a' ∧ lp f a = lp f a' := sorry

theorem lp_oI {α β : Type} {f : α → Option (α ⊕ β)} {a : α} {x : Option β} (h : f a = oI x) : lp f a = x := sorry

/-- a row of catches has what a Shore has -/
def cR (C : Nat → Int32) (S : Nat → Nat → Int32) (F : Nat) : Prop := ∀ f, f < F → C f = S (34 + 2 * f) 5
theorem cR_add {C : Nat → Int32} {S : Nat → Nat → Int32} {F f : Nat} {v : Int32} (h : cR C S F) (hf : f < F) : cR (up1 C f (C f + v)) (add5 S f v) F := sorry

/-- catches are stored -/
theorem RS_st {A st : Nat → Nat → Int32} {F G np n : Nat} (hF : F ≤ 8) (hn : n < F) (R : RS (stA A n) st F G np) : RS (stA A (n + 1)) (up2 st 5 n (st 5 n + st 6 n)) F G np := sorry

/-- a ground has grown -/
theorem RS_gr {A st : Nat → Nat → Int32} {F G np n : Nat} {r : Nat → Int32} (hG : G ≤ 8) (hn : n < G) (R : RS (growA A n) st F G np) (h1 : ∀ k, k < 5 → r (5 * n + k) = gro (A (19 + 2 * n)) (k + 1)) (h2 : ∀ i, (i < 5 * n ∨ 5 * n + 5 ≤ i) → r i = st 1 i) : RS (growA A (n + 1)) (up1 st 1 r) F G np := sorry

/-- the tide and the number l -/
theorem RS_0 {A st : Nat → Nat → Int32} {F G np : Nat} {k : Nat} {v : Int32} (R : RS A st F G np) : RS (up2 A 0 k v) (up2 st 0 k v) F G np := sorry

/-- no matter what stands in the rows that are of use for a moment alone -/
theorem RS_c {A st st' : Nat → Nat → Int32} {F G np : Nat} (R : RS A st F G np) (h : ∀ d, d < 13 → st' d = st d) : RS A st' F G np := sorry

theorem RS_boats {A st : Nat → Nat → Int32} {F G np : Nat} {r : Nat → Int32} (hG : G ≤ 8) (R : RS A st F G np) (h : ∀ k, k < 8 → r k = 0) : RS (boat0 A G) (up1 st 2 r) F G np := sorry
