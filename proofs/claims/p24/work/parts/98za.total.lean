/-! ## Pure: the pacts keep what was caught -/
def smN (c : Nat → Nat) : Nat → Nat
  | 0 => 0
  | n + 1 => smN c n + c n
theorem smN_c {c d : Nat → Nat} : ∀ n, (∀ i, i < n → c i = d i) → smN c n = smN d n := sorry

theorem smN_set {c : Nat → Nat} {f v : Nat} : ∀ n, f < n → smN (fun i => if i = f then v else c i) n + c f = smN c n + v := sorry

theorem smN_le {c : Nat → Nat} {f : Nat} : ∀ n, f < n → c f ≤ smN c n := sorry

theorem smN_b {c : Nat → Nat} {k : Nat} : ∀ n, (∀ i, i < n → c i ≤ k) → smN c n ≤ k * n := sorry

/-- all catches, s in all -/
def CTa (A : Nat → Nat → Int32) (F s : Nat) (c : Nat → Nat) : Prop := (∀ f, f < F → A (34 + 2 * f) 5 = nI (c f)) ∧ smN c F = s
theorem CT_set {A : Nat → Nat → Int32} {F s f v : Nat} {c : Nat → Nat} {x : Int32} (h : CTa A F s c) (hf : f < F) (hx : x = nI v) : CTa (up2 A (34 + 2 * f) 5 x) F (s + v - c f) (fun i => if i = f then v else c i) := sorry

theorem CT_spN {A : Nat → Nat → Int32} {F s p : Nat} {c : Nat → Nat} (hF : F ≤ 8) (h : CTa A F s c) (hs : s < 2 ^ 30) : ∀ i, (∀ j, j < i → ∃ f, f < F ∧ A (75 + 2 * p) j = nI f) → ∃ c' pot, CTa (spN A p i).1 F (s - pot) c' ∧ (spN A p i).2.1 = nI pot ∧ pot ≤ s := sorry

theorem CT_shN {A : Nat → Nat → Int32} {F s p v : Nat} {c : Nat → Nat} (hF : F ≤ 8) (h : CTa A F s c) : ∀ i, (∀ j, j < i → ∃ f, f < F ∧ A (75 + 2 * p) j = nI f) → ∃ c', CTa (shN A p (nI v) i) F (s + i * v) c' := sorry
