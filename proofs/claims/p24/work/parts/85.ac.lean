/-! ## Pure: steps of the class's lines -/
def AC (x : Option (Option (List (Nat × Nat)) × Nat)) : Prop := ∀ es e, x = some (some es, e) → ∀ y ∈ es, y.1 < 45
theorem AC_sq {x : Option (Option (List (Nat × Nat)) × Nat)} {f : Nat → Option (Option (List (Nat × Nat)) × Nat)} (h1 : AC x) (h2 : ∀ e, AC (f e)) : AC (sq x f) := sorry

theorem AC_tk {g : Nat → Nat} {a k : Nat} : AC (tk1 g a k) := sorry

theorem AC_em {c i k : Nat} (hc : c < 45) : AC (em (c, i) k) := sorry

theorem AC_ft {k : Nat} : AC (ft k) := sorry

theorem AC_nm {g : Nat → Nat} {c k : Nat} (hc : c < 45) : AC (nm g c k) := sorry

theorem AC_nil {k : Nat} : AC (some (some [], k)) := sorry

theorem AC_lp {g : Nat → Nat} {a b : Nat} {f : Nat → Option (Option (List (Nat × Nat)) × Nat)} (hg : ∀ i, g i < 45) (hf : ∀ e, AC (f e)) : ∀ m k, AC (lpS g a b f m k) := sorry

theorem AC_if {c : Prop} [Decidable c] {x y : Option (Option (List (Nat × Nat)) × Nat)} (h1 : AC x) (h2 : AC y) : AC (if c then x else y) := sorry

theorem AC_Px {g : Nat → Nat} (hg : ∀ i, g i < 45) : ∀ n j k d, AC (Px g n j k d) := sorry
