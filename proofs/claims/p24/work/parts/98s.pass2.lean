/-! ## Pure: the second pass of the reference against the class -/
def ceL : List (Nat × Nat) → List (Nat × Nat)
  | [] => []
  | x :: r => if x.1 < 45 then x :: ceL r else ceL r
theorem ceL_app : ∀ (a b : List (Nat × Nat)), ceL (a ++ b) = ceL a ++ ceL b := sorry

theorem ceL_cc : ∀ (a : List (Nat × Nat)), (ceL a).length = cc a := sorry

theorem nc_app {c : Nat} : ∀ (a b : List (Nat × Nat)), nc c (a ++ b) = nc c a + nc c b := sorry

theorem ES_up {g : Nat → Nat} : ∀ (a : List (Nat × Nat)) (k e e' : Nat), ES g k a e → e ≤ e' → ES g k a e' := sorry

/-- one more: names, signs, goes -/
theorem pre_1 {pre : List (Nat × Nat)} {c i w : Nat} : tks w (pre ++ [(c, i)]) = if tkC c = true ∧ rl c = w then tks w pre ++ [i] else tks w pre := sorry

theorem pre_2 {pre : List (Nat × Nat)} {c i : Nat} : ceL (pre ++ [(c, i)]) = if c < 45 then ceL pre ++ [(c, i)] else ceL pre := sorry

theorem pre_3 {pre : List (Nat × Nat)} {c i : Nat} : nc 54 (pre ++ [(c, i)]) = nc 54 pre + if c = 54 then 1 else 0 := sorry

def RAp (Z vs : Nat → Nat) (r o m t : Nat) (pre : List (Nat × Nat)) (k : Nat) (q : Nat × Nat × Nat × Nat) (C D : gMem) : Prop := RA Z vs r o m t (tks 1 pre) (tks 2 pre) (tks 3 pre) (ceL pre) (nc 54 pre) k q C D
