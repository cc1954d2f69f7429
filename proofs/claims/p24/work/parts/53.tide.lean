/-! ## Pure: a tide -/
theorem drS_c {sg sg' : Nat → Nat → Int32} {n : Nat} {x : Int32} (hn : n < 2 ^ 31) : ∀ j, j ≤ n → (drS sg n x j).2 = (drS sg' n x j).2 ∧ (∀ k, k < n - j → (drS sg n x j).1 10 k = (drS sg' n x j).1 10 k ∧ ∃ v, v < n ∧ (drS sg n x j).1 10 k = nI v) ∧ ∀ i, i < j → (drS sg n x j).1 9 i = (drS sg' n x j).1 9 i ∧ ∃ v, v < n ∧ (drS sg n x j).1 9 i = nI v := sorry

/-- the number l behind a tide's lots, and the fisher with lot i, of n fishers -/
def lkA (n : Nat) (x : Int32) : Int32 := (drS (fun _ _ => 0) n x n).2
def ltA (n : Nat) (x : Int32) (i : Nat) : Nat := ((drS (fun _ _ => 0) n x n).1 9 i).toNatClampNeg
theorem ltA_lt {n i : Nat} {x : Int32} (hn : n < 2 ^ 31) (hi : i < n) : ltA n x i < n := sorry

theorem s7_draw {M : gMem} {o n : Nat} {sg : Nat → Nat → Int32} (L : LC o M) (h : sg 0 3 = nI n) (hn : n ≤ 8) : ∃ sg', f_X7_drawLots (sC o sg M) o = some (lkA n (sg 0 1), sC o sg' M) ∧ nz sg' = nz sg ∧ ∀ i, i < n → sg' 9 i = nI (ltA n (sg 0 1) i) := sorry

/-- what a text tells and a tide leaves -/
def told (d k : Nat) : Prop := (d = 0 ∧ 2 ≤ k) ∨ d = 5 ∨ d = 7 ∨ (18 ≤ d ∧ d < 34 ∧ d % 2 = 0 ∧ k = 0) ∨ (34 ≤ d ∧ d < 50 ∧ d % 2 = 0 ∧ (k = 0 ∨ k = 2 ∨ k = 3 ∨ k = 9)) ∨ (50 ≤ d ∧ d < 74) ∨ (74 ≤ d ∧ d % 2 = 0 ∧ k ≤ 4) ∨ (74 ≤ d ∧ d % 2 = 1)
def eqT (A A' : Nat → Nat → Int32) : Prop := ∀ d k, told d k → A' d k = A d k
theorem eqT_r (A : Nat → Nat → Int32) : eqT A A := sorry

theorem eqT_t {A B C : Nat → Nat → Int32} (h : eqT A B) (h2 : eqT B C) : eqT A C := sorry

theorem eqT_2 {A : Nat → Nat → Int32} {d k : Nat} {v : Int32} (h : ¬ told d k) : eqT A (up2 A d k v) := sorry

theorem eqT_1 {A : Nat → Nat → Int32} {d : Nat} {r : Nat → Int32} (h : ∀ k, ¬ told d k) : eqT A (up1 A d r) := sorry

theorem eqT_nz (A : Nat → Nat → Int32) : eqT A (nz A) := sorry

theorem eqT_Z {A A' : Nat → Nat → Int32} (h : eqZ A A') : eqT A A' := sorry

/-- a Shore as a text has told it: grounds, fishers, pacts, goes -/
def WS (A : Nat → Nat → Int32) (F G np ng : Nat) : Prop :=
  A 0 2 = nI G ∧ G ≤ 8 ∧ A 0 3 = nI F ∧ F ≤ 8 ∧ PK A np ∧ GO A ng ∧
  (∀ i, i < ng → (∃ f, f < F ∧ A (50 + i) 0 = nI f) ∧ ∃ g, g < G ∧ A (50 + i) 1 = nI g) ∧
  (∀ p, p < np → ∃ n, 1 ≤ n ∧ n ≤ 8 ∧ A (74 + 2 * p) 3 = nI n ∧ ∀ i, i < n → ∃ f, f < F ∧ A (75 + 2 * p) i = nI f)
def WD (A : Nat → Nat → Int32) (F G : Nat) : Prop := (∀ g, g < G → okG A g) ∧ ∀ f, f < F → okF A f
theorem WS_c {A A' : Nat → Nat → Int32} {F G np ng : Nat} (h : eqT A A') (W : WS A F G np ng) : WS A' F G np ng := sorry

theorem fgo_v {pg : Nat → Nat} {len np ng F G f : Nat} {A : Nat → Nat → Int32} (W : WS A F G np ng) : ∀ d i, i + d ≤ ng → fgo pg len np A f d i = -1 ∨ ∃ g, g < G ∧ fgo pg len np A f d i = nI g := sorry

/-- where a sail leaves all as it was -/
theorem thereA_o {A : Nat → Nat → Int32} {f g d k : Nat} (h1 : d ≠ 34 + 2 * f ∨ (k ≠ 5 ∧ k ≠ 6)) (h2 : d ≠ 18 + 2 * g ∨ k ≠ 1) : thereA A f g d k = A d k := sorry

theorem tornA_o {A : Nat → Nat → Int32} {f g d k : Nat} (h1 : d ≠ 34 + 2 * f ∨ (k ≠ 5 ∧ k ≠ 6 ∧ k ≠ 1 ∧ k ≠ 7)) (h2 : d ≠ 18 + 2 * g ∨ k ≠ 1) : tornA A f g d k = A d k := sorry

theorem sailA_o {A : Nat → Nat → Int32} {f g d k : Nat} (h1 : d ≠ 34 + 2 * f ∨ (k ≠ 5 ∧ k ≠ 6 ∧ k ≠ 1 ∧ k ≠ 7 ∧ k ≠ 8)) (h2 : d ≠ 18 + 2 * g ∨ (k ≠ 1 ∧ k ≠ 2)) (h3 : d ≠ 19 + 2 * g) (h4 : d ≠ 35 + 2 * f ∨ k ≠ g) : sailA A f g d k = A d k := sorry

theorem sailA_fish {A : Nat → Nat → Int32} {f g s : Nat} (hf : f < 8) (hg : g < 8) : sailA A f g (19 + 2 * g) s = fsN (A (19 + 2 * g)) (hlA A g f).1 (tornA A f g (34 + 2 * f) 1).toNatClampNeg 5 s := sorry

theorem sailA_mesh {A : Nat → Nat → Int32} {f g : Nat} (hf : f < 8) (hg : g < 8) : sailA A f g (34 + 2 * f) 1 = if (hlA A g f).2.2.2 = 0 then A (34 + 2 * f) 1 else imin (A (34 + 2 * f) 1 + nI 1) (nI 6) := sorry

theorem sailA_T {A : Nat → Nat → Int32} {f g : Nat} (hf : f < 8) (hg : g < 8) : eqT A (sailA A f g) := sorry

theorem homeA_o {A : Nat → Nat → Int32} {f d k : Nat} (h : d ≠ 34 + 2 * f ∨ (k ≠ 5 ∧ k ≠ 6)) : homeA A f d k = A d k := sorry

theorem homeA_T {A : Nat → Nat → Int32} {f : Nat} (hf : f < 8) : eqT A (homeA A f) := sorry

theorem okG_c {A A' : Nat → Nat → Int32} {g : Nat} (h : ∀ s, A' (19 + 2 * g) s = A (19 + 2 * g) s) (o : okG A g) : okG A' g := sorry

theorem okF_c {A A' : Nat → Nat → Int32} {f : Nat} (h : ∀ k, k = 1 ∨ k = 2 ∨ k = 3 → A' (34 + 2 * f) k = A (34 + 2 * f) k) (o : okF A f) : okF A' f := sorry

theorem sailA_D {A : Nat → Nat → Int32} {f g F G : Nat} (hF : F ≤ 8) (hG : G ≤ 8) (hf : f < F) (hg : g < G) (W : WD A F G) : WD (sailA A f g) F G := sorry

theorem homeA_D {A : Nat → Nat → Int32} {f F G : Nat} (W : WD A F G) (hf : f < 8) (hG : G ≤ 8) : WD (homeA A f) F G := sorry

/-- a fisher's turn -/
noncomputable def goA (pg : Nat → Nat) (len np ng : Nat) (A : Nat → Nat → Int32) (f : Nat) : Nat → Nat → Int32 :=
  if fgo pg len np A f ng 0 = -1 then homeA A f else sailA A f (fgo pg len np A f ng 0).toNatClampNeg
noncomputable def fleetA (pg : Nat → Nat) (len np ng : Nat) (lf : Nat → Nat) (A : Nat → Nat → Int32) : Nat → Nat → Nat → Int32
  | 0 => A
  | n + 1 => goA pg len np ng (fleetA pg len np ng lf A n) (lf n)
theorem nI_nm1 {g : Nat} (h : g < 2 ^ 31) : nI g ≠ -1 := sorry

theorem goA_W {pg : Nat → Nat} {len np ng F G f : Nat} {A : Nat → Nat → Int32} (W : WS A F G np ng) (D : WD A F G) (hf : f < F) : eqT A (goA pg len np ng A f) ∧ WD (goA pg len np ng A f) F G := sorry

theorem fleetA_W {pg : Nat → Nat} {len np ng F G : Nat} {lf : Nat → Nat} {A : Nat → Nat → Int32} (W : WS A F G np ng) (D : WD A F G) : ∀ n, (∀ i, i < n → lf i < F) → eqT A (fleetA pg len np ng lf A n) ∧ WD (fleetA pg len np ng lf A n) F G := sorry

theorem s7_turn {Z pg : Nat → Nat} {M : gMem} {o len np ng F G f : Nat} {sg : Nat → Nat → Int32} (L : LC o M) (P : PG Z pg o len M sg) (W : WS sg F G np ng) (D : WD sg F G) (hf : f < F) : ∃ v sg1 sg2, f_X7_firstGo Z (sC o sg M) o (nI f) = some (v, sC o sg1 M) ∧ f_X7_sail (sC o sg1 M) o (nI f) v = some ((), sC o sg2 M) ∧ nz sg2 = goA pg len np ng (nz sg) f ∧ sg2 9 = sg 9 := sorry

theorem PG_T {Z pg : Nat → Nat} {o len : Nat} {M : gMem} {sg sg' : Nat → Nat → Int32} (P : PG Z pg o len M sg) (h : eqT sg sg') : PG Z pg o len M sg' := sorry

theorem eqT_of {A B : Nat → Nat → Int32} (h : eqT (nz A) (nz B)) : eqT A B := sorry

theorem WD_nz {A : Nat → Nat → Int32} {F G : Nat} : WD (nz A) F G ↔ WD A F G := sorry

/-- a Shore in order, and what the memory says of its sums -/
def WW (Z pg : Nat → Nat) (o len : Nat) (M : gMem) (F G np ng : Nat) (sg : Nat → Nat → Int32) : Prop := PG Z pg o len M sg ∧ WS sg F G np ng ∧ WD sg F G
theorem WW_c {Z pg : Nat → Nat} {o len : Nat} {M : gMem} {F G np ng : Nat} {sg sg' : Nat → Nat → Int32} (W : WW Z pg o len M F G np ng sg) (h : eqT (nz sg) (nz sg')) (D : WD (nz sg') F G) : WW Z pg o len M F G np ng sg' := sorry

theorem s7_fleet2 {Z pg : Nat → Nat} {M : gMem} {o len np ng F G : Nat} {lf : Nat → Nat} {sg : Nat → Nat → Int32} {x1 x2 x3 : Int32} (L : LC o M) (W : WW Z pg o len M F G np ng sg) (hl : ∀ i, i < F → sg 9 i = nI (lf i) ∧ lf i < F) : ∃ sg', nz sg' = fleetA pg len np ng lf (nz sg) F ∧ lp_X7_passTides_24 Z (sC o sg M) o x1 x2 x3 (nI 0) = lp_X7_passTides_64 Z (sC o sg' M) o x1 x2 x3 (nI 0) := sorry
