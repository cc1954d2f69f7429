/-! ## Pure: the reference's single tests and values -/
theorem MR_sq2 {vs : Nat → Nat} {m t d d1 : Nat} {M0 M : gMem} {x : Option (Option (List (Nat × Nat)) × Nat)} {f : Nat → Option (Option (List (Nat × Nat)) × Nat)} {y : Option (Int32 × gMem)} {B : gMem → Option (Int32 × gMem)} (ht : m + 7 ≤ t) (h : MRl vs m t d1 M0 M x y) (hB : ∀ es M1 e, x = some (some es, e) → MI m t M0 M1 → mI M1 m 9 = nI e → mI M1 m 10 = nI d1 → si2 m M1 (mrn vs m t es M) → MRl vs m t d M0 M1 (f e) (B M1)) : MRl vs m t d M0 M (sq x f) (bd y fun r1 M1 => if r1 = 0 then some ((0 : Int32), M1) else B M1) := sorry

theorem MR_si {vs : Nat → Nat} {m t d : Nat} {M0 M M1 : gMem} {x : Option (Option (List (Nat × Nat)) × Nat)} {y : Option (Int32 × gMem)} (ht : m + 7 ≤ t) (hs : si2 m M1 M) (h : MRl vs m t d M0 M1 x y) : MRl vs m t d M0 M x y := sorry

theorem MR_ck {vs : Nat → Nat} {m t d : Nat} {M0 M : gMem} {x : Option (Option (List (Nat × Nat)) × Nat)} {y : Option (Int32 × gMem)} (h : MRl vs m t d M0 M x y) : MRl vs m t d M0 M x (bd y fun r1 M1 => ck (r1 = 0 ∨ r1 = 1) <| some (r1, M1)) := sorry

theorem MR_tk {vs : Nat → Nat} {m t d a e : Nat} {g : Nat → Nat} {M0 M : gMem} {y : Option (Int32 × gMem)} (ht : m + 7 ≤ t) (C : MI m t M0 M) (h9 : mI M m 9 = nI e) (h10 : mI M m 10 = nI d) (h : y = if g e = a then some ((1 : Int32), tk' m (e + 1) M) else some ((0 : Int32), M)) : MRl vs m t d M0 M (tk1 g a e) y := sorry

theorem if_cg {α : Type} {p q : Prop} [Decidable p] [Decidable q] {a b : α} (h : p ↔ q) : (if p then a else b) = if q then a else b := sorry

theorem su1 {n : Nat} : nI (n + 1) - (1 : Int32) = nI n := sorry

/-- one deeper -/
def dpM (m d : Nat) (M : gMem) : gMem := wI M m 10 (nI d)
theorem si2_dp {m d : Nat} {A : gMem} : si2 m (dpM m d A) A := sorry

theorem mQk_dp {m t d k : Nat} {M0 M : gMem} (ht : m + 7 ≤ t) (Q : mQk m t d M0 M k) : mQk m t (d + 1) M0 (tk' m (k + 1) (dpM m (d + 1) M)) (k + 1) := sorry

theorem dp_dn {m t d e : Nat} {M0 M : gMem} (ht : m + 7 ≤ t) (C : MI m t M0 M) (h9 : mI M m 9 = nI e) (h10 : mI M m 10 = nI (d + 1)) : wI M m 10 (mI M m 10 - (1 : Int32)) = dpM m d M ∧ MI m t M0 (dpM m d M) ∧ mI (dpM m d M) m 9 = nI e ∧ mI (dpM m d M) m 10 = nI d ∧ ∀ a j, a ≠ m → mI (dpM m d M) a j = mI M a j := sorry
