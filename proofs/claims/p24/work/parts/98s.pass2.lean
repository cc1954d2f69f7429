/-! ## Pure: the second pass of the reference against the class -/
def ceL : List (Nat × Nat) → List (Nat × Nat)
  | [] => []
  | x :: r => if x.1 < 45 then x :: ceL r else ceL r
theorem ceL_app : ∀ (a b : List (Nat × Nat)), ceL (a ++ b) = ceL a ++ ceL b
  | [], b => rfl
  | x :: r, b => by
    rw [List.cons_append, ceL, ceL, ceL_app r b]
    split <;> rfl
theorem ceL_cc : ∀ (a : List (Nat × Nat)), (ceL a).length = cc a
  | [] => rfl
  | x :: r => by
    rw [ceL, cc]
    split
    · rw [List.length_cons, ceL_cc r]; omega
    · rw [ceL_cc r]; omega
theorem nc_app {c : Nat} : ∀ (a b : List (Nat × Nat)), nc c (a ++ b) = nc c a + nc c b
  | [], b => by show nc c b = 0 + nc c b; omega
  | x :: r, b => by rw [List.cons_append, nc, nc, nc_app r b]; omega
theorem ES_up {g : Nat → Nat} : ∀ (a : List (Nat × Nat)) (k e e' : Nat), ES g k a e → e ≤ e' → ES g k a e'
  | [], k, e, e', h, he => Nat.le_trans h he
  | x :: t, k, e, e', h, he => by
    rw [ES] at h ⊢
    by_cases c : tkC x.1 = true
    · rw [if_pos c] at h ⊢
      exact ⟨h.1, h.2.1, ES_up t _ _ _ h.2.2 he⟩
    · rw [if_neg c] at h ⊢
      exact ES_up t _ _ _ h he
/-- one more: names, signs, goes -/
theorem pre_1 {pre : List (Nat × Nat)} {c i w : Nat} : tks w (pre ++ [(c, i)]) = if tkC c = true ∧ rl c = w then tks w pre ++ [i] else tks w pre := by
  rw [tks_app]
  show tks w pre ++ (if tkC c = true ∧ rl c = w then [i] else []) = _
  split
  · rfl
  · exact List.append_nil _
theorem pre_2 {pre : List (Nat × Nat)} {c i : Nat} : ceL (pre ++ [(c, i)]) = if c < 45 then ceL pre ++ [(c, i)] else ceL pre := by
  rw [ceL_app]
  show ceL pre ++ (if c < 45 then [(c, i)] else []) = _
  split
  · rfl
  · exact List.append_nil _
theorem pre_3 {pre : List (Nat × Nat)} {c i : Nat} : nc 54 (pre ++ [(c, i)]) = nc 54 pre + if c = 54 then 1 else 0 := by
  rw [nc_app]
  rfl
def RAp (Z vs : Nat → Nat) (r o m t : Nat) (pre : List (Nat × Nat)) (k : Nat) (q : Nat × Nat × Nat × Nat) (C D : gMem) : Prop := RA Z vs r o m t (tks 1 pre) (tks 2 pre) (tks 3 pre) (ceL pre) (nc 54 pre) k q C D
