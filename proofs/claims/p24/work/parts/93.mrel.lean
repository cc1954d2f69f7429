/-! ## Pure: the reference's parts say what the spec says: the relation -/
/-- the same but for the token and the depth -/
def si2 (m : Nat) (A B : gMem) : Prop := ∀ k d, td' m k d A = td' m k d B
theorem td_td {m k d k1 d1 : Nat} {M : gMem} : td' m k d (td' m k1 d1 M) = td' m k d M := by
  unfold td'
  rw [wI_cm (M := wI M m 9 (nI k1)) (a := m) (k := 10) (b := m) (j := 9) (.inr (by omega)), wI_2, wI_2]
theorem si2_tr {m : Nat} {A B C : gMem} (h1 : si2 m A B) (h2 : si2 m B C) : si2 m A C := fun k d => (h1 k d).trans (h2 k d)
theorem si2_s {m : Nat} {A B : gMem} (h : si2 m A B) : si2 m B A := fun k d => (h k d).symm
theorem si2_td {m k d : Nat} {A : gMem} : si2 m (td' m k d A) A := fun _ _ => td_td
theorem si2_m1 {vs : Nat → Nat} {m t c i : Nat} {A B : gMem} (ht : m + 7 ≤ t) (h : si2 m A B) : si2 m (mst1 vs m t c i A) (mst1 vs m t c i B) := fun k d => by
  rw [← td_s ht, ← td_s ht, h k d]
theorem si2_rn {vs : Nat → Nat} {m t : Nat} (ht : m + 7 ≤ t) : ∀ (a : List (Nat × Nat)) {A B : gMem}, si2 m A B → si2 m (mrn vs m t a A) (mrn vs m t a B)
  | [], _, _, h => h
  | e :: r, _, _, h => si2_rn ht r (si2_m1 ht h)
/-- from M, at depth d, the program's answer y is what x says -/
def MRl (vs : Nat → Nat) (m t d : Nat) (M0 M : gMem) (x : Option (Option (List (Nat × Nat)) × Nat)) (y : Option (Int32 × gMem)) : Prop :=
  match x with
  | none => True
  | some (none, e) => ∃ M1, y = some ((0 : Int32), M1) ∧ MI m t M0 M1 ∧ mI M1 m 9 = nI e
  | some (some es, e) => ∃ M1, y = some ((1 : Int32), M1) ∧ MI m t M0 M1 ∧ mI M1 m 9 = nI e ∧ mI M1 m 10 = nI d ∧ si2 m M1 (mrn vs m t es M)
theorem MR_sq {vs : Nat → Nat} {m t d : Nat} {M0 M : gMem} {x : Option (Option (List (Nat × Nat)) × Nat)} {f : Nat → Option (Option (List (Nat × Nat)) × Nat)} {y : Option (Int32 × gMem)} {B : gMem → Option (Int32 × gMem)} (ht : m + 7 ≤ t) (h : MRl vs m t d M0 M x y) (hB : ∀ es M1 e, x = some (some es, e) → MI m t M0 M1 → mI M1 m 9 = nI e → mI M1 m 10 = nI d → si2 m M1 (mrn vs m t es M) → MRl vs m t d M0 M1 (f e) (B M1)) : MRl vs m t d M0 M (sq x f) (bd y fun r1 M1 => if r1 = 0 then some ((0 : Int32), M1) else B M1) := by
  match x, h, hB with
  | none, _, _ => trivial
  | some (none, e), ⟨M1, h1, h2, h3⟩, _ => exact ⟨M1, by rw [h1, bd_S, if_pos rfl], h2, h3⟩
  | some (some es, e), ⟨M1, h1, h2, h3, h4, h5⟩, hB =>
    have key := hB es M1 e rfl h2 h3 h4 h5
    rw [h1, bd_S, if_neg (by decide)]
    show MRl vs m t d M0 M (match f e with
      | none => none
      | some (none, k1) => some (none, k1)
      | some (some es1, k1) => some (some (es ++ es1), k1)) (B M1)
    match f e, key with
    | none, _ => trivial
    | some (none, e1), key => exact key
    | some (some es1, e1), ⟨M2, k1, k2, k3, k4, k5⟩ => exact ⟨M2, k1, k2, k3, k4, by rw [mrn_app]; exact si2_tr k5 (si2_rn ht es1 h5)⟩

