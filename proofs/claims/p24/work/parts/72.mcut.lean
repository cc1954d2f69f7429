theorem mk_1 : ∀ g, g < 45 → (g < 42 → mk g < 900) ∧ (g = 42 → mk g = 900) ∧ (g = 43 → mk g = 901) ∧ mk g < 1000 := by decide +kernel
/-- what the reference's cutting leaves -/
def mcutted (T : Nat → Nat) (n m k : Nat) (I I' : Nat → Nat → Int32) : Prop :=
  (∀ i, i < k → I' (m + 2) i = nI (mk (tok T n i)) ∧ I' (m + 3) i = nI (pos T n i) ∧ I' (m + 5) i = 0 ∧ I' (m + 6) i = 0 ∧ (tok T n i < 42 → I' (m + 4) i = nI (tkE T n (pos T n i) - pos T n i))) ∧
  ∀ a, (a < m + 2 ∨ m + 6 < a) → I' a = I a
/-! names and numbers -/
theorem wv_inj {T : Nat → Nat} {a b : Nat} : ∀ l k, (∀ j, j < l → isA (T (a + j)) = true) → (∀ j, j < k → isA (T (b + j)) = true) → (wv T a l = wv T b k ↔ l = k ∧ ∀ j, j < l → T (a + j) = T (b + j))
  | 0, 0, _, _ => ⟨fun _ => ⟨rfl, fun j hj => absurd hj (Nat.not_lt_zero j)⟩, fun _ => rfl⟩
  | 0, k + 1, _, h => by
    constructor
    · intro e
      have := h k (by omega)
      have hd : 1 ≤ dg (T (b + k)) := by unfold dg; split <;> omega
      rw [wv, wv] at e
      omega
    · rintro ⟨e, -⟩; omega
  | l + 1, 0, h, _ => by
    constructor
    · intro e
      have hd : 1 ≤ dg (T (a + l)) := by unfold dg; split <;> omega
      rw [wv, wv] at e
      omega
    · rintro ⟨e, -⟩; omega
  | l + 1, k + 1, h1, h2 => by
    have ih := wv_inj (T := T) (a := a) (b := b) l k (fun j hj => h1 j (by omega)) (fun j hj => h2 j (by omega))
    have d1 := h1 l (by omega)
    have d2 := h2 k (by omega)
    have dgr : ∀ x, isA x = true → 1 ≤ dg x ∧ dg x ≤ 36 := by
      intro x hx
      unfold isA isL isD at hx
      simp only [Bool.or_eq_true, Bool.and_eq_true, decide_eq_true_eq] at hx
      unfold dg
      split <;> omega
    have dgi : ∀ x y, isA x = true → isA y = true → dg x = dg y → x = y := by
      intro x y hx hy e
      unfold isA isL isD at hx hy
      simp only [Bool.or_eq_true, Bool.and_eq_true, decide_eq_true_eq] at hx hy
      unfold dg at e
      split at e <;> split at e <;> omega
    obtain ⟨r1, r2⟩ := dgr _ d1
    obtain ⟨r3, r4⟩ := dgr _ d2
    rw [wv, wv]
    constructor
    · intro e
      have e1 : dg (T (a + l)) = dg (T (b + k)) := by omega
      have e2 : wv T a l = wv T b k := by omega
      obtain ⟨f1, f2⟩ := ih.mp e2
      subst f1
      refine ⟨rfl, fun j hj => ?_⟩
      by_cases c : j = l
      · subst c; exact dgi _ _ d1 d2 e1
      · exact f2 j (by omega)
    · rintro ⟨e, f⟩
      have e : l = k := by omega
      subst e
      rw [ih.mpr ⟨rfl, fun j hj => f j (by omega)⟩, f l (by omega)]
theorem wv_lt {T : Nat → Nat} {a : Nat} : ∀ l, (∀ j, j < l → isA (T (a + j)) = true) → wv T a l < 37 ^ l
  | 0, _ => by show 0 < 37 ^ 0; decide
  | l + 1, h => by
    have ih := wv_lt (T := T) (a := a) l (fun j hj => h j (by omega))
    have d1 := h l (by omega)
    have : dg (T (a + l)) ≤ 36 := by
      unfold isA isL isD at d1
      simp only [Bool.or_eq_true, Bool.and_eq_true, decide_eq_true_eq] at d1
      unfold dg
      split <;> omega
    rw [wv, Nat.pow_succ]
    omega

