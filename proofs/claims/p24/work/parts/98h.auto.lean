/-! ## Pure: what may follow what: sizes of a ground, numbers of a fisher, parts of a go, of a pact -/
def aA (c : Nat) (q : Nat × Nat × Nat × Nat) : Option (Nat × Nat × Nat × Nat) :=
  if c < 45 then (if q.2.2.1 = 1 ∨ q.2.2.1 = 2 ∨ q.2.2.2 = 1 then none else some (q.1, q.2.1, q.2.2.1, if q.2.2.2 = 2 then 4 else q.2.2.2))
  else if c = 51 then some (1, q.2)
  else if c = 55 then (if q.1 = 1 then some q else none)
  else if 1000 ≤ c then (if 1 ≤ q.1 ∧ c = 1000 + q.1 then some (q.1 + 1, q.2) else none)
  else if c = 52 then (if q.2.1 = 0 ∨ q.2.1 = 4 then some (q.1, 1, q.2.2) else none)
  else if c = 57 ∨ c = 58 ∨ c = 59 then (if q.2.1 + 56 = c then some (q.1, q.2.1 + 1, q.2.2) else none)
  else if c = 54 then (if q.2.2.1 = 0 ∨ q.2.2.1 = 4 then some (q.1, q.2.1, 1, q.2.2.2) else none)
  else if c = 60 ∨ c = 61 then (if q.2.2.1 + 59 = c then some (q.1, q.2.1, q.2.2.1 + 1, q.2.2.2) else none)
  else if c = 64 ∨ c = 66 then (if q.2.2.1 = 3 ∧ q.2.2.2 ≠ 3 then some (q.1, q.2.1, 4, q.2.2.2) else none)
  else if c = 53 then (if q.2.2.2 = 0 ∨ q.2.2.2 = 2 ∨ q.2.2.2 = 4 then some (q.1, q.2.1, q.2.2.1, 1) else none)
  else if c = 62 then (if q.2.2.2 = 1 ∨ q.2.2.2 = 2 then some (q.1, q.2.1, q.2.2.1, 2) else none)
  else if c = 63 then (if q.2.2.2 = 2 then some (q.1, q.2.1, q.2.2.1, 3) else none)
  else if c = 65 then (if q.2.2.2 = 3 ∧ q.2.2.1 ≠ 3 then some (q.1, q.2.1, q.2.2.1, 4) else none)
  else none
def aE : List (Nat × Nat) → Nat × Nat × Nat × Nat → Option (Nat × Nat × Nat × Nat)
  | [], q => some q
  | x :: r, q => match aA x.1 q with
    | none => none
    | some q1 => aE r q1
theorem aE_app : ∀ (a b : List (Nat × Nat)) (q q1 : Nat × Nat × Nat × Nat), aE a q = some q1 → aE (a ++ b) q = aE b q1 := sorry

theorem aA_ok {c : Nat} {q q1 : Nat × Nat × Nat × Nat} (h : aA c q = some q1) : okC c := sorry

theorem aE_ok : ∀ (es : List (Nat × Nat)) (q q1 : Nat × Nat × Nat × Nat), aE es q = some q1 → ∀ y ∈ es, okC y.1 := sorry

def AU (x : Option (Option (List (Nat × Nat)) × Nat)) (P Q : Nat × Nat × Nat × Nat → Prop) : Prop := ∀ es e, x = some (some es, e) → ∀ q, P q → ∃ q1, aE es q = some q1 ∧ Q q1
theorem AU_sq {x : Option (Option (List (Nat × Nat)) × Nat)} {f : Nat → Option (Option (List (Nat × Nat)) × Nat)} {P Q R : Nat × Nat × Nat × Nat → Prop} (h1 : AU x P Q) (h2 : ∀ e, AU (f e) Q R) : AU (sq x f) P R := sorry

theorem AU_ft {k : Nat} {P Q : Nat × Nat × Nat × Nat → Prop} : AU (ft k) P Q := sorry

theorem AU_nil {k : Nat} {P : Nat × Nat × Nat × Nat → Prop} : AU (some (some [], k)) P P := sorry

theorem AU_em {c i k : Nat} {P Q : Nat × Nat × Nat × Nat → Prop} (h : ∀ q, P q → ∃ q1, aA c q = some q1 ∧ Q q1) : AU (em (c, i) k) P Q := sorry

theorem AU_tk {g : Nat → Nat} {a k : Nat} {P : Nat × Nat × Nat × Nat → Prop} : AU (tk1 g a k) P P := sorry

theorem AU_if {p : Prop} [Decidable p] {c k : Nat} {P Q : Nat × Nat × Nat × Nat → Prop} (h : ∀ q, P q → ∃ q1, aA c q = some q1 ∧ Q q1) : AU (if p then em (c, k) (k + 1) else ft k) P Q := sorry

theorem AU_c {P : Nat × Nat × Nat × Nat → Prop} (h : ∀ c q, c < 45 → P q → ∃ q1, aA c q = some q1 ∧ P q1) : ∀ (es : List (Nat × Nat)), (∀ y ∈ es, y.1 < 45) → ∀ q, P q → ∃ q1, aE es q = some q1 ∧ P q1 := sorry

theorem AU_ac {x : Option (Option (List (Nat × Nat)) × Nat)} {P : Nat × Nat × Nat × Nat → Prop} (ac : AC x) (h : ∀ c q, c < 45 → P q → ∃ q1, aA c q = some q1 ∧ P q1) : AU x P P := sorry

/-- a line begins -/
def LSq (q : Nat × Nat × Nat × Nat) : Prop := (q.2.1 = 0 ∨ q.2.1 = 4) ∧ (q.2.2.1 = 0 ∨ q.2.2.1 = 4) ∧ (q.2.2.2 = 0 ∨ q.2.2.2 = 2 ∨ q.2.2.2 = 4)
theorem aA_x {q : Nat × Nat × Nat × Nat} : (∃ q1, aA 51 q = some q1 ∧ q1 = (1, q.2)) ∧ (q.1 = 1 → aA 55 q = some q) ∧ (∀ s, 1 ≤ s → q.1 = s → aA (1000 + s) q = some (s + 1, q.2)) ∧ (q.2.1 = 0 ∨ q.2.1 = 4 → aA 52 q = some (q.1, 1, q.2.2)) ∧ (q.2.1 = 1 → aA 57 q = some (q.1, 2, q.2.2)) ∧ (q.2.1 = 2 → aA 58 q = some (q.1, 3, q.2.2)) ∧ (q.2.1 = 3 → aA 59 q = some (q.1, 4, q.2.2)) ∧ (q.2.2.1 = 0 ∨ q.2.2.1 = 4 → aA 54 q = some (q.1, q.2.1, 1, q.2.2.2)) ∧ (q.2.2.1 = 1 → aA 60 q = some (q.1, q.2.1, 2, q.2.2.2)) ∧ (q.2.2.1 = 2 → aA 61 q = some (q.1, q.2.1, 3, q.2.2.2)) ∧ (q.2.2.1 = 3 → q.2.2.2 ≠ 3 → aA 64 q = some (q.1, q.2.1, 4, q.2.2.2) ∧ aA 66 q = some (q.1, q.2.1, 4, q.2.2.2)) ∧ (q.2.2.2 = 0 ∨ q.2.2.2 = 2 ∨ q.2.2.2 = 4 → aA 53 q = some (q.1, q.2.1, q.2.2.1, 1)) ∧ (q.2.2.2 = 1 ∨ q.2.2.2 = 2 → aA 62 q = some (q.1, q.2.1, q.2.2.1, 2)) ∧ (q.2.2.2 = 2 → aA 63 q = some (q.1, q.2.1, q.2.2.1, 3)) ∧ (q.2.2.2 = 3 → q.2.2.1 ≠ 3 → aA 65 q = some (q.1, q.2.1, q.2.2.1, 4)) := sorry

theorem aA_c {c : Nat} {q : Nat × Nat × Nat × Nat} (hc : c < 45) (h : q.2.2.1 ≠ 1 ∧ q.2.2.1 ≠ 2 ∧ q.2.2.2 ≠ 1) : aA c q = some (q.1, q.2.1, q.2.2.1, if q.2.2.2 = 2 then 4 else q.2.2.2) := sorry

theorem AU_szL {g : Nat → Nat} : ∀ m s k, 1 ≤ s → AU (szL g m s k) (fun q => LSq q ∧ q.1 = s) LSq := sorry

theorem AU_lnG {g : Nat → Nat} {k : Nat} : AU (lnG g k) LSq LSq := sorry

theorem AU_lnF {g : Nat → Nat} {k : Nat} : AU (lnF g k) LSq LSq := sorry

theorem AU_lnO {g : Nat → Nat} {k : Nat} (hg : ∀ i, g i < 45) : AU (lnO g k) LSq LSq := sorry

def PSq (x : Nat) (q : Nat × Nat × Nat × Nat) : Prop := (q.2.1 = 0 ∨ q.2.1 = 4) ∧ (q.2.2.1 = 0 ∨ q.2.2.1 = 4) ∧ q.2.2.2 = x
theorem AU_mbL {g : Nat → Nat} : ∀ m k, AU (mbL g m k) (PSq 2) (PSq 2) := sorry

theorem AU_lnP {g : Nat → Nat} {k : Nat} (hg : ∀ i, g i < 45) : AU (lnP g k) LSq LSq := sorry

theorem AU_txL {g : Nat → Nat} (hg : ∀ i, g i < 45) : ∀ m k, AU (txL g m k) LSq LSq := sorry
