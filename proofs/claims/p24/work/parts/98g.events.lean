/-! ## Pure: rows of events: roles, names, what may follow what -/
def okC (c : Nat) : Prop := c < 45 ∨ (51 ≤ c ∧ c ≤ 66 ∧ c ≠ 56) ∨ 1000 ≤ c
def rl (c : Nat) : Nat := if c = 16 ∨ c = 17 ∨ c = 4 ∨ c = 19 then 14 else if c = 2 ∨ c = 18 then 15 else if c < 45 then 0 else if 1000 ≤ c then 6 else if 51 ≤ c ∧ c ≤ 63 then c - 50 else 0
def roE : List (Nat × Nat) → Nat → Nat
  | [], _ => 0
  | x :: r, i => if tkC x.1 = true ∧ x.2 = i then rl x.1 else roE r i
/-- the tokens of a role -/
def tks (w : Nat) : List (Nat × Nat) → List Nat
  | [] => []
  | x :: r => if tkC x.1 = true ∧ rl x.1 = w then x.2 :: tks w r else tks w r
def lkL (vs : Nat → Nat) (v : Nat) : List Nat → Nat → Option Nat
  | [], _ => none
  | i :: r, c => if vs i = v then some c else lkL vs v r (c + 1)
theorem roE_lo {g : Nat → Nat} : ∀ (es : List (Nat × Nat)) (k e i : Nat), ES g k es e → i < k → roE es i = 0 := sorry

theorem roE_hi {g : Nat → Nat} : ∀ (es : List (Nat × Nat)) (k e i : Nat), ES g k es e → e ≤ i → roE es i = 0 := sorry

theorem rl_le {c : Nat} : rl c ≤ 15 := sorry

theorem roE_le : ∀ (es : List (Nat × Nat)) (i : Nat), roE es i ≤ 15 := sorry

theorem rl_kd {c : Nat} (hx : okC c) (h1 : 1 ≤ rl c) (h4 : rl c ≠ 4) : kdC c = if 5 ≤ rl c ∧ rl c ≤ 9 then 41 else 40 := sorry

theorem roE_kd {g : Nat → Nat} : ∀ (es : List (Nat × Nat)) (k e i : Nat), ES g k es e → (∀ y ∈ es, okC y.1) → 1 ≤ roE es i → roE es i ≠ 4 → g i = if 5 ≤ roE es i ∧ roE es i ≤ 9 then 41 else 40 := sorry

theorem tdS_skip {ro vs : Nat → Nat} {w v : Nat} : ∀ (a d c k : Nat), (∀ j, k ≤ j → j < k + a → ro j ≠ w) → tdS ro vs w v (a + d) c k = tdS ro vs w v d c (k + a) := sorry

theorem tdS_0 {ro vs : Nat → Nat} {w v : Nat} {a c k : Nat} (h : ∀ j, k ≤ j → j < k + a → ro j ≠ w) : tdS ro vs w v a c k = none := sorry

/-- the reference's search is a search in the row of names -/
theorem tds_es {g vs ro : Nat → Nat} {w v : Nat} (hw : 1 ≤ w) : ∀ (pre : List (Nat × Nat)) (k c x : Nat), ES g k pre x → (∀ i, k ≤ i → i < x → ro i = roE pre i) → tdS ro vs w v (x - k) c k = lkL vs v (tks w pre) c := sorry

theorem tks_app {w : Nat} : ∀ (a b : List (Nat × Nat)), tks w (a ++ b) = tks w a ++ tks w b := sorry

theorem roE_app {g : Nat → Nat} : ∀ (a b : List (Nat × Nat)) (k x e i : Nat), ES g k a x → ES g x b e → roE (a ++ b) i = if i < x then roE a i else roE b i := sorry

/-- what the first pass leaves in the row of roles -/
theorem ms_r {vs : Nat → Nat} {m t c i j : Nat} {M : gMem} (ht : m + 7 ≤ t) (hc : okC c) : mI (mst1 vs m t c i M) (m + 5) j = if tkC c = true ∧ j = i ∧ c ≠ 41 then nI (rl c) else mI M (m + 5) j := sorry

theorem mr_r {g vs : Nat → Nat} {m t K : Nat} (ht : m + 7 ≤ t) : ∀ (es : List (Nat × Nat)) (k e : Nat) (M : gMem), ES g k es e → (∀ y ∈ es, okC y.1) → (∀ i, k ≤ i → i ≤ K → mI M (m + 5) i = 0) → (∀ i, i < k → mI (mrn vs m t es M) (m + 5) i = mI M (m + 5) i) ∧ ∀ i, k ≤ i → i ≤ K → mI (mrn vs m t es M) (m + 5) i = nI (roE es i) := sorry
