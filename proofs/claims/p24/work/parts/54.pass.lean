/-! ## Pure: a tide's end, many tides -/
theorem splA_o {A : Nat → Nat → Int32} {p n d k : Nat} (hP : okP A p n) (hn : 1 ≤ n) (h1 : ∀ f, f < 8 → d ≠ 34 + 2 * f ∨ k ≠ 5) (h2 : d ≠ 74 + 2 * p ∨ (k ≠ 5 ∧ k ≠ 6 ∧ k ≠ 7)) : splA A p n d k = A d k := sorry

theorem splA_T {A : Nat → Nat → Int32} {p n : Nat} (hP : okP A p n) (hn : 1 ≤ n) : eqT A (splA A p n) := sorry

theorem splA_D {A : Nat → Nat → Int32} {p n F G : Nat} (hP : okP A p n) (hn : 1 ≤ n) (hF : F ≤ 8) (hG : G ≤ 8) (D : WD A F G) : WD (splA A p n) F G := sorry

/-- the first n pacts have split, if they do -/
def splitsA (A : Nat → Nat → Int32) : Nat → Nat → Nat → Int32
  | 0 => A
  | n + 1 => if 0 ≤ splitsA A n (74 + 2 * n) 0 then splitsA A n else splA (splitsA A n) n (splitsA A n (74 + 2 * n) 3).toNatClampNeg
theorem WS_p {A : Nat → Nat → Int32} {F G np ng p : Nat} (W : WS A F G np ng) (hp : p < np) : ∃ n, 1 ≤ n ∧ n ≤ 8 ∧ A (74 + 2 * p) 3 = nI n ∧ okP A p n := sorry

theorem splitsA_W {A : Nat → Nat → Int32} {F G np ng : Nat} (W : WS A F G np ng) (D : WD A F G) : ∀ n, n ≤ np → eqT A (splitsA A n) ∧ WD (splitsA A n) F G := sorry

theorem splits_nz {A : Nat → Nat → Int32} {F G np ng : Nat} (W : WS A F G np ng) (D : WD A F G) : ∀ n, n ≤ np → nz (splitsA A n) = splitsA (nz A) n := sorry

/-- the first n grounds have grown -/
def growA (A : Nat → Nat → Int32) : Nat → Nat → Nat → Int32
  | 0 => A
  | n + 1 => up1 (growA A n) (19 + 2 * n) (gro (A (19 + 2 * n)))
theorem growA_o {A : Nat → Nat → Int32} {d : Nat} : ∀ n, (∀ g, g < n → d ≠ 19 + 2 * g) → growA A n d = A d := sorry

theorem growA_g {A : Nat → Nat → Int32} {g : Nat} : ∀ n, g < n → growA A n (19 + 2 * g) = gro (A (19 + 2 * g)) := sorry

theorem grow_nz {A : Nat → Nat → Int32} : ∀ n, nz (growA A n) = growA (nz A) n := sorry

/-- the fish of a growing ground stay in their bounds -/
theorem gr1_b {f : Nat → Int32} {j : Nat} (h : ∀ s, 1 ≤ s → s ≤ 5 → ∃ n, n ≤ 99 ∧ f s = nI n) (hj : 1 ≤ j) (hj2 : j ≤ 4) : ∀ s, 1 ≤ s → s ≤ 5 → ∃ n, n ≤ 99 ∧ gr1 f j s = nI n := sorry

theorem grN_b {f : Nat → Int32} (h : ∀ s, 1 ≤ s → s ≤ 5 → ∃ n, n ≤ 99 ∧ f s = nI n) : ∀ j, j ≤ 4 → ∀ s, 1 ≤ s → s ≤ 5 → ∃ n, n ≤ 99 ∧ grN f j s = nI n := sorry

theorem sum5_b {f : Nat → Int32} (h : ∀ s, 1 ≤ s → s ≤ 5 → ∃ n, n ≤ 99 ∧ f s = nI n) : ∀ j, j ≤ 5 → ∃ n, n ≤ 99 * j ∧ sum5 f j = nI n := sorry

theorem gro_b {f : Nat → Int32} (h : ∀ s, 1 ≤ s → s ≤ 5 → ∃ n, n ≤ 99 ∧ f s = nI n) : ∀ s, 1 ≤ s → s ≤ 5 → ∃ n, n ≤ 99 ∧ gro f s = nI n := sorry

theorem growA_W {A : Nat → Nat → Int32} {F G : Nat} (hF : F ≤ 8) (hG : G ≤ 8) (D : WD A F G) : eqT A (growA A G) ∧ WD (growA A G) F G := sorry

theorem uI_sC {o d : Nat} {sg : Nat → Nat → Int32} {M : gMem} {r : Nat → Int32} (h : d < 86) : uI (sC o sg M) (o + d) r = sC o (up1 sg d r) M := sorry

theorem s7_gGrow {M : gMem} {o i : Nat} {sg : Nat → Nat → Int32} (L : LC o M) (hi : i < 8) : f_X3_grow (sC o sg M) (o + (18 + 2 * i)) = some ((), sC o (up1 sg (19 + 2 * i) (gro (sg (19 + 2 * i)))) M) := sorry

theorem s7_p100 {Z : Nat → Nat} {M : gMem} {o G : Nat} {sg : Nat → Nat → Int32} {x1 x2 x3 : Int32} (L : LC o M) (h : sg 0 2 = nI G) (hG : G ≤ 8) : lp_X7_passTides_100 Z (sC o sg M) o x1 x2 x3 (nI 0) = some (.inl (sC o (up2 (growA sg G) 0 0 (sg 0 0 + 1)) M, x2, x3 + 1)) := sorry

theorem s7_p64 {Z pg : Nat → Nat} {M : gMem} {o len np ng F G : Nat} {sg : Nat → Nat → Int32} {x1 x2 x3 : Int32} (L : LC o M) (W : WW Z pg o len M F G np ng sg) : lp_X7_passTides_64 Z (sC o sg M) o x1 x2 x3 (nI 0) = some (.inl (sC o (up2 (growA (stA (splitsA sg np) F) G) 0 0 (sg 0 0 + 1)) M, x2 + sumN (fun i => splitsA sg np (34 + 2 * i) 5) F, x3 + 1)) := sorry

/-- a tide -/
noncomputable def tideP (pg : Nat → Nat) (len np ng F G : Nat) (A : Nat → Nat → Int32) : Nat → Nat → Int32 :=
  splitsA (fleetA pg len np ng (ltA F (A 0 1)) (boat0 (up2 A 0 1 (lkA F (A 0 1))) G) F) np
noncomputable def tideA (pg : Nat → Nat) (len np ng F G : Nat) (A : Nat → Nat → Int32) : Nat → Nat → Int32 :=
  up2 (growA (stA (tideP pg len np ng F G A) F) G) 0 0 (A 0 0 + 1)
noncomputable def tidesA (pg : Nat → Nat) (len np ng F G : Nat) (A : Nat → Nat → Int32) : Nat → Nat → Nat → Int32
  | 0 => A
  | n + 1 => tideA pg len np ng F G (tidesA pg len np ng F G A n)
/-- what n tides bring -/
noncomputable def incA (pg : Nat → Nat) (len np ng F G : Nat) (A : Nat → Nat → Int32) : Nat → Int32
  | 0 => 0
  | n + 1 => incA pg len np ng F G A n + sumN (fun i => tideP pg len np ng F G (tidesA pg len np ng F G A n) (34 + 2 * i) 5) F
theorem boat0_nz {A : Nat → Nat → Int32} : ∀ n, nz (boat0 A n) = boat0 (nz A) n := sorry

theorem boat0_W {A : Nat → Nat → Int32} {F G : Nat} (hF : F ≤ 8) (hG : G ≤ 8) (D : WD A F G) : eqT A (boat0 A G) ∧ WD (boat0 A G) F G := sorry

theorem tide_W {pg : Nat → Nat} {len np ng F G : Nat} {A : Nat → Nat → Int32} (W : WS A F G np ng) (D : WD A F G) : (eqT A (tideP pg len np ng F G A) ∧ WD (tideP pg len np ng F G A) F G) ∧ eqT A (tideA pg len np ng F G A) ∧ WD (tideA pg len np ng F G A) F G := sorry

theorem tides_W {pg : Nat → Nat} {len np ng F G : Nat} {A : Nat → Nat → Int32} (W : WS A F G np ng) (D : WD A F G) : ∀ n, eqT A (tidesA pg len np ng F G A n) ∧ WD (tidesA pg len np ng F G A n) F G := sorry

theorem s7_tide {Z pg : Nat → Nat} {M : gMem} {o len np ng F G n j : Nat} {sg : Nat → Nat → Int32} {x : Int32} (L : LC o M) (W : WW Z pg o len M F G np ng sg) (hn : n < 2 ^ 31) (hj : j < n) : ∃ sg', bb_X7_passTides_4 Z (sC o sg M) o (nI n) x (nI j) = some (.inl (sC o sg' M, x + sumN (fun i => tideP pg len np ng F G (nz sg) (34 + 2 * i) 5) F, nI (j + 1))) ∧ nz sg' = tideA pg len np ng F G (nz sg) := sorry

theorem s7_passTides {Z pg : Nat → Nat} {M : gMem} {o len np ng F G n : Nat} {sg : Nat → Nat → Int32} (L : LC o M) (W : WW Z pg o len M F G np ng sg) (hn : n < 2 ^ 31) : ∃ sg', f_X7_passTides Z (sC o sg M) o (nI n) = some (incA pg len np ng F G (nz sg) n, sC o sg' M) ∧ nz sg' = tidesA pg len np ng F G (nz sg) n := sorry
