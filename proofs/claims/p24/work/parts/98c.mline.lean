/-! ## Pure: the reference's lines of grounds and fishers -/
def MLl (vs : Nat → Nat) (K m t : Nat) (M0 M : gMem) (x : Option (Option (List (Nat × Nat)) × Nat)) (y : Option (Int32 × gMem)) : Prop :=
  match x with
  | none => True
  | some (none, e) => ∃ M1, y = some ((0 : Int32), M1) ∧ MI m t M0 M1 ∧ mI M1 m 9 = nI e ∧ e ≤ K
  | some (some es, e) => ∃ M1, y = some ((1 : Int32), M1) ∧ mQk m t 0 M0 M1 e ∧ e ≤ K ∧ si2 m M1 (mrn vs m t es M)
theorem ML_app {vs : Nat → Nat} {K m t : Nat} {M0 M M1 : gMem} {x : Option (Option (List (Nat × Nat)) × Nat)} {es : List (Nat × Nat)} {e : Nat} {f : Nat → Option (Option (List (Nat × Nat)) × Nat)} {y : Option (Int32 × gMem)} (ht : m + 7 ≤ t) (hx : x = some (some es, e)) (hs : si2 m M1 (mrn vs m t es M)) (h : MLl vs K m t M0 M1 (f e) y) : MLl vs K m t M0 M (sq x f) y := sorry

theorem ML_ft {vs : Nat → Nat} {K m t e : Nat} {M0 M M1 : gMem} {f : Nat → Option (Option (List (Nat × Nat)) × Nat)} {y : Option (Int32 × gMem)} (h : y = some ((0 : Int32), M1)) (C : MI m t M0 M1) (h9 : mI M1 m 9 = nI e) (he : e ≤ K) : MLl vs K m t M0 M (sq (ft e) f) y := sorry

/-- a token -/
theorem ML_tk {g vs : Nat → Nat} {K m t : Nat} {M0 : gMem} (W : MWd g K m t M0) {a e : Nat} {M : gMem} {f : Nat → Option (Option (List (Nat × Nat)) × Nat)} {y : Option (Int32 × gMem)} {B : gMem → Option (Int32 × gMem)} (Q : mQk m t 0 M0 M e) (he : e ≤ K) (ha : a < 42) (hy : y = if g e = a then some ((1 : Int32), tk' m (e + 1) M) else some ((0 : Int32), M)) (hB : ∀ X, e + 1 ≤ K → mQk m t 0 M0 X (e + 1) → (∀ j, mI X t j = mI M t j) → MLl vs K m t M0 X (f (e + 1)) (B X)) : MLl vs K m t M0 M (sq (tk1 g a e) f) (bd y fun r1 M1 => if r1 = 0 then some ((0 : Int32), M1) else B M1) := sorry

theorem ro_Q {m t e i : Nat} {v : Int32} {M0 M : gMem} (ht : m + 7 ≤ t) (Q : mQk m t 0 M0 M e) : mQk m t 0 M0 (roM m i v M) e := sorry

theorem ms_ro {vs : Nat → Nat} {m t c i : Nat} {M : gMem} (h : (51 ≤ c ∧ c ≤ 63 ∧ c ≠ 53 ∧ c ≠ 54) ∨ 1000 ≤ c) : mst1 vs m t c i M = roM m i (nI (if 1000 ≤ c then 6 else c - 50)) M := sorry
