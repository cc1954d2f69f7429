/-! a text that is appended: a constant of ours, or one that was made -/
def strZ (Z : Nat → Nat) (r : Option Nat) : Option Nat := (List.range 94).find? (fun i => decide (r = some (Z (100 + i))))
theorem strZ_eq {Z : Nat → Nat} {r : Option Nat} {i : Nat} (h : strZ Z r = some i) : r = some (Z (100 + i)) := by
  have := List.find?_some h
  simpa using this
noncomputable def f_J4_append_15ec4_E (Z : Nat → Nat) (M : gMem) (x0 : Nat) (x1 : Option Nat) : Option (Option Nat × gMem) :=
  match strZ Z x1 with
  | some j => f_J4_append_15ec4_S Z M x0 j
  | none => f_J4_append_15ec4_r Z M x0 x1
theorem m_J4_append_15ec4_E (l : Launch) {D : va_G} {cy : Nat → ClassId} {B : Nat} {H0 : Heap} {Z : Nat → Nat} {M M1 : gMem} {x0 : Nat} {x1 : Option Nat} {r : Option Nat} (hf : f_J4_append_15ec4_E Z M x0 x1 = some (r, M1)) : Met l yJ4_append_15ec4 wsJ4_append_15ec4 rJ4_append_15ec4_r (va_Pc (Value.ref x0 :: List.map gv [vR x1]) (gPre D cy B H0 (gSt2 Z B H0) M)) (gQ D cy B H0 (some (vR r)) M1) 1 2400 (gA B) := by
  unfold f_J4_append_15ec4_E at hf
  cases h : strZ Z x1 with
  | some j =>
    rw [h] at hf
    have e := strZ_eq h
    subst e
    exact m_J4_append_15ec4_S l hf
  | none =>
    rw [h] at hf
    exact m_J4_append_15ec4_r l hf
