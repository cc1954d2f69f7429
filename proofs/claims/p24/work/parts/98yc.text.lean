/-! ## Pure: words and numbers of a text: what they say to both -/
/-- what a token says: a name, a number -/
def vsT (T : Nat → Nat) (n i : Nat) : Nat := if tok T n i = 40 ∨ tok T n i = 41 then (tkJ T n (pos T n i)).getD 0 else 0
def TXT (m n K : Nat) (T : Nat → Nat) (X : gMem) : Prop :=
  (mT X m = 13 ∧ mR X m 1 = some (m + 1) ∧ mR X m 5 = some (m + 3) ∧ mR X m 6 = some (m + 4) ∧ mT X (m + 1) = 20 ∧ mT X (m + 3) = 20 ∧ mT X (m + 4) = 20 ∧ mL X (m + 1) = 2000 ∧ mL X (m + 3) = 401 ∧ mL X (m + 4) = 401) ∧ K ≤ 400 ∧ n ≤ 2000 ∧ (∀ q, q < n → mI X (m + 1) q = nI (T q) ∧ T q < 256) ∧ ∀ i, i ≤ K → mI X (m + 3) i = nI (pos T n i) ∧ (tok T n i < 42 → mI X (m + 4) i = nI (tkE T n (pos T n i) - pos T n i))
theorem sLn_0 : sLn 40 = 0 ∧ sLn 41 = 0 := sorry

theorem symG_n {T : Nat → Nat} {n a : Nat} : (symG T n a).1 ≠ 40 ∧ (symG T n a).1 ≠ 41 := sorry

theorem wdG_n {T : Nat → Nat} {n a : Nat} (h : a < wEnd T n a) : (wdG T n a = 40 → wEnd T n a - a ≤ 10) ∧ wdG T n a ≠ 41 := sorry

/-- the place of a name, of a number -/
theorem tok_40 {T : Nat → Nat} {n i : Nat} (h : tok T n i = 40) : pos T n i < n ∧ isL (T (pos T n i)) = true ∧ tkE T n (pos T n i) = wEnd T n (pos T n i) ∧ pos T n i < wEnd T n (pos T n i) ∧ wEnd T n (pos T n i) - pos T n i ≤ 10 ∧ wEnd T n (pos T n i) ≤ n ∧ (∀ j, pos T n i ≤ j → j < wEnd T n (pos T n i) → isA (T j) = true) ∧ vsT T n i = wv T (pos T n i) (wEnd T n (pos T n i) - pos T n i) := sorry

theorem tok_41 {T : Nat → Nat} {n i : Nat} (h : tok T n i = 41) : pos T n i < n ∧ tkE T n (pos T n i) = nEnd T n (pos T n i) ∧ pos T n i ≤ nEnd T n (pos T n i) ∧ nEnd T n (pos T n i) - pos T n i ≤ 6 ∧ nEnd T n (pos T n i) ≤ n ∧ (∀ j, pos T n i ≤ j → j < nEnd T n (pos T n i) → isD (T j) = true) ∧ vsT T n i = nv T (pos T n i) (nEnd T n (pos T n i) - pos T n i) := sorry

/-! a word as a number -/
theorem isA_b {x : Nat} (h : isA x = true) : 48 ≤ x ∧ x ≤ 122 ∧ (x ≤ 57 ∨ 97 ≤ x) := sorry

theorem isD_b {x : Nat} (h : isD x = true) : 48 ≤ x ∧ x ≤ 57 := sorry

theorem dg_b {x : Nat} (h : isA x = true) : 1 ≤ dg x ∧ dg x ≤ 36 := sorry

theorem dg_i {x y : Nat} (hx : isA x = true) (hy : isA y = true) (h : dg x = dg y) : x = y := sorry

theorem wv_i {T : Nat → Nat} {a b : Nat} : ∀ l k, (∀ j, a ≤ j → j < a + l → isA (T j) = true) → (∀ j, b ≤ j → j < b + k → isA (T j) = true) → (wv T a l = wv T b k ↔ l = k ∧ ∀ j, j < l → T (a + j) = T (b + j)) := sorry

theorem wv_b {T : Nat → Nat} {a : Nat} : ∀ l, (∀ j, a ≤ j → j < a + l → isA (T j) = true) → wv T a l < 37 ^ l := sorry

theorem nv_b {T : Nat → Nat} {a : Nat} : ∀ l, (∀ j, a ≤ j → j < a + l → isD (T j) = true) → nv T a l < 10 ^ l := sorry

theorem vsT_41 {T : Nat → Nat} {n i : Nat} (h : tok T n i = 41) : vsT T n i < 1000000 := sorry

theorem vsT_b {T : Nat → Nat} {n i : Nat} : vsT T n i < 2 ^ 62 := sorry
