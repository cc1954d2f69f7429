/-! ## Pure: steps of the class's lines -/
def AC (x : Option (Option (List (Nat × Nat)) × Nat)) : Prop := ∀ es e, x = some (some es, e) → ∀ y ∈ es, y.1 < 45
theorem AC_sq {x : Option (Option (List (Nat × Nat)) × Nat)} {f : Nat → Option (Option (List (Nat × Nat)) × Nat)} (h1 : AC x) (h2 : ∀ e, AC (f e)) : AC (sq x f) := by
  intro es e he y hy
  match x, h1, he with
  | none, _, he => cases he
  | some (none, k1), _, he => cases he
  | some (some es1, k1), h1, he =>
    have a1 := h1 es1 k1 rfl
    have a2 := h2 k1
    unfold sq at he
    match c : f k1 with
    | none => simp only [c] at he; cases he
    | some (none, k2) => simp only [c] at he; cases he
    | some (some es2, k2) =>
      simp only [c] at he
      cases he
      rcases List.mem_append.mp hy with h | h
      · exact a1 y h
      · exact a2 es2 _ c y h
theorem AC_tk {g : Nat → Nat} {a k : Nat} : AC (tk1 g a k) := by
  intro es e he y hy
  obtain ⟨-, h, -⟩ := tk1_k he
  subst h
  cases hy
theorem AC_em {c i k : Nat} (hc : c < 45) : AC (em (c, i) k) := by
  intro es e he y hy
  cases he
  rw [List.mem_singleton.mp hy]
  exact hc
theorem AC_ft {k : Nat} : AC (ft k) := by
  intro es e he y hy
  cases he
theorem AC_nm {g : Nat → Nat} {c k : Nat} (hc : c < 45) : AC (nm g c k) := by
  unfold nm
  by_cases h : g k = 40
  · rw [if_pos h]; exact AC_em hc
  · rw [if_neg h]; exact AC_ft
theorem AC_nil {k : Nat} : AC (some (some [], k)) := by
  intro es e he y hy
  cases he
  cases hy
theorem AC_lp {g : Nat → Nat} {a b : Nat} {f : Nat → Option (Option (List (Nat × Nat)) × Nat)} (hg : ∀ i, g i < 45) (hf : ∀ e, AC (f e)) : ∀ m k, AC (lpS g a b f m k)
  | 0, _ => by intro es e he; cases he
  | m + 1, k => by
    rw [lpS]
    by_cases h : g k = a ∨ g k = b
    · rw [if_pos h]; exact AC_sq (hf _) (fun e => AC_sq (AC_em (hg k)) (fun e => AC_lp hg hf m e))
    · rw [if_neg h]; exact AC_nil
theorem AC_if {c : Prop} [Decidable c] {x y : Option (Option (List (Nat × Nat)) × Nat)} (h1 : AC x) (h2 : AC y) : AC (if c then x else y) := by
  by_cases h : c
  · rw [if_pos h]; exact h1
  · rw [if_neg h]; exact h2
theorem AC_Px {g : Nat → Nat} (hg : ∀ i, g i < 45) : ∀ n j k d, AC (Px g n j k d)
  | 0, _, _, _ => by intro es e he; cases he
  | n + 1, j, k, d => by
    have IH := AC_Px hg n
    rw [Px]
    have LP : ∀ a b j1, AC (sq (Px g n j1 k d) (lpS g a b (fun k => Px g n j1 k d) 401)) := fun a b j1 => AC_sq (IH j1 k d) (fun e => AC_lp hg (fun e => IH j1 e d) 401 e)
    by_cases c0 : j = 0
    · rw [if_pos c0]; exact LP 22 22 1
    rw [if_neg c0]
    by_cases c1 : j = 1
    · rw [if_pos c1]; exact LP 21 21 2
    rw [if_neg c1]
    by_cases c2 : j = 2
    · rw [if_pos c2]
      refine AC_if (AC_if AC_ft (AC_sq (IH 2 (k + 1) (d + 1)) (fun e => AC_em (by decide)))) ?_
      refine AC_if (AC_if AC_ft (AC_sq (IH 0 (k + 1) (d + 1)) (fun e => AC_tk))) ?_
      exact AC_if (AC_nm (by decide)) (AC_sq (IH 4 k d) (fun e => IH 3 e d))
    rw [if_neg c2]
    by_cases c3 : j = 3
    · rw [if_pos c3]
      exact AC_if (AC_sq (IH 4 (k + 1) d) (fun e => AC_em (hg k))) AC_ft
    rw [if_neg c3]
    by_cases c4 : j = 4
    · rw [if_pos c4]; exact LP 31 32 5
    rw [if_neg c4]
    by_cases c5 : j = 5
    · rw [if_pos c5]; exact LP 33 34 6
    rw [if_neg c5]
    refine AC_if (AC_em (by decide)) ?_
    refine AC_if (AC_em (by decide)) ?_
    refine AC_if (AC_nm (hg k)) ?_
    refine AC_if (AC_nm (hg k)) ?_
    refine AC_if (AC_if AC_ft (AC_sq (IH 6 (k + 1) (d + 1)) (fun e => AC_em (by decide)))) ?_
    refine AC_if (AC_if AC_ft (AC_sq (IH 4 (k + 1) (d + 1)) (fun e => AC_tk))) ?_
    exact AC_if (AC_if AC_ft (AC_sq AC_tk (fun e => AC_sq (IH 4 e (d + 1)) (fun e => AC_sq AC_tk (fun e => AC_sq (IH 4 e (d + 1)) (fun e => AC_sq AC_tk (fun e => AC_em (hg k)))))))) AC_ft

