theorem mk_1 : ∀ g, g < 45 → (g < 42 → mk g < 900) ∧ (g = 42 → mk g = 900) ∧ (g = 43 → mk g = 901) ∧ mk g < 1000 := sorry

/-- what the reference's cutting leaves -/
def mcutted (T : Nat → Nat) (n m k : Nat) (I I' : Nat → Nat → Int32) : Prop :=
  (∀ i, i < k → I' (m + 2) i = nI (mk (tok T n i)) ∧ I' (m + 3) i = nI (pos T n i) ∧ I' (m + 5) i = 0 ∧ I' (m + 6) i = 0 ∧ (tok T n i < 42 → I' (m + 4) i = nI (tkE T n (pos T n i) - pos T n i))) ∧
  ∀ a, (a < m + 2 ∨ m + 6 < a) → I' a = I a
/-! names and numbers -/
theorem wv_inj {T : Nat → Nat} {a b : Nat} : ∀ l k, (∀ j, j < l → isA (T (a + j)) = true) → (∀ j, j < k → isA (T (b + j)) = true) → (wv T a l = wv T b k ↔ l = k ∧ ∀ j, j < l → T (a + j) = T (b + j)) := sorry

theorem wv_lt {T : Nat → Nat} {a : Nat} : ∀ l, (∀ j, j < l → isA (T (a + j)) = true) → wv T a l < 37 ^ l := sorry
