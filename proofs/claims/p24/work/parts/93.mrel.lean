/-! ## Pure: the reference's parts say what the spec says: the relation -/
/-- the same but for the token and the depth -/
def si2 (m : Nat) (A B : gMem) : Prop := ∀ k d, td' m k d A = td' m k d B
theorem td_td {m k d k1 d1 : Nat} {M : gMem} : td' m k d (td' m k1 d1 M) = td' m k d M := sorry

theorem si2_tr {m : Nat} {A B C : gMem} (h1 : si2 m A B) (h2 : si2 m B C) : si2 m A C := sorry

theorem si2_s {m : Nat} {A B : gMem} (h : si2 m A B) : si2 m B A := sorry

theorem si2_td {m k d : Nat} {A : gMem} : si2 m (td' m k d A) A := sorry

theorem si2_m1 {vs : Nat → Nat} {m t c i : Nat} {A B : gMem} (ht : m + 7 ≤ t) (h : si2 m A B) : si2 m (mst1 vs m t c i A) (mst1 vs m t c i B) := sorry

theorem si2_rn {vs : Nat → Nat} {m t : Nat} (ht : m + 7 ≤ t) : ∀ (a : List (Nat × Nat)) {A B : gMem}, si2 m A B → si2 m (mrn vs m t a A) (mrn vs m t a B) := sorry

/-- from M, at depth d, the program's answer y is what x says -/
def MRl (vs : Nat → Nat) (m t d : Nat) (M0 M : gMem) (x : Option (Option (List (Nat × Nat)) × Nat)) (y : Option (Int32 × gMem)) : Prop :=
  match x with
  | none => True
  | some (none, e) => ∃ M1, y = some ((0 : Int32), M1) ∧ MI m t M0 M1 ∧ mI M1 m 9 = nI e
  | some (some es, e) => ∃ M1, y = some ((1 : Int32), M1) ∧ MI m t M0 M1 ∧ mI M1 m 9 = nI e ∧ mI M1 m 10 = nI d ∧ si2 m M1 (mrn vs m t es M)
theorem MR_sq {vs : Nat → Nat} {m t d : Nat} {M0 M : gMem} {x : Option (Option (List (Nat × Nat)) × Nat)} {f : Nat → Option (Option (List (Nat × Nat)) × Nat)} {y : Option (Int32 × gMem)} {B : gMem → Option (Int32 × gMem)} (ht : m + 7 ≤ t) (h : MRl vs m t d M0 M x y) (hB : ∀ es M1 e, x = some (some es, e) → MI m t M0 M1 → mI M1 m 9 = nI e → mI M1 m 10 = nI d → si2 m M1 (mrn vs m t es M) → MRl vs m t d M0 M1 (f e) (B M1)) : MRl vs m t d M0 M (sq x f) (bd y fun r1 M1 => if r1 = 0 then some ((0 : Int32), M1) else B M1) := sorry
