/-! ## Pure: pacts split, catches are stored -/
/-- the fisher at place i of the pact p -/
def memA (A : Nat → Nat → Int32) (p i : Nat) : Nat := (A (75 + 2 * p) i).toNatClampNeg
/-- what comes to the catch of f -/
def add5 (A : Nat → Nat → Int32) (f : Nat) (v : Int32) : Nat → Nat → Int32 := up2 A (34 + 2 * f) 5 (A (34 + 2 * f) 5 + v)
theorem add5_o {A : Nat → Nat → Int32} {f d k : Nat} {v : Int32} (h : d ≠ 34 + 2 * f ∨ k ≠ 5) : add5 A f v d k = A d k := sorry

theorem add5_e (A : Nat → Nat → Int32) (f : Nat) (v : Int32) : add5 A f v (34 + 2 * f) 5 = A (34 + 2 * f) 5 + v := sorry

theorem add5_a (A : Nat → Nat → Int32) (f : Nat) (v w : Int32) : add5 (add5 A f v) f w = add5 A f (v + w) := sorry

theorem add5_c (A : Nat → Nat → Int32) (f g : Nat) (v w : Int32) : add5 (add5 A f v) g w = add5 (add5 A g w) f v := sorry

theorem nz_add5 {A : Nat → Nat → Int32} {f : Nat} {v : Int32} : nz (add5 A f v) = add5 (nz A) f v := sorry

/-- what a fisher shows -/
def shwA (A : Nat → Nat → Int32) (f : Nat) : Int32 := if A (34 + 2 * f) 9 = 0 then A (34 + 2 * f) 5 else A (34 + 2 * f) 5 / 2
def sp1 (p i : Nat) (q : (Nat → Nat → Int32) × Int32 × Int32) : (Nat → Nat → Int32) × Int32 × Int32 :=
  (up2 q.1 (34 + 2 * memA q.1 p i) 5 (q.1 (34 + 2 * memA q.1 p i) 5 - shwA q.1 (memA q.1 p i)), q.2.1 + shwA q.1 (memA q.1 p i), q.2.2 + (q.1 (34 + 2 * memA q.1 p i) 5 - shwA q.1 (memA q.1 p i)))
/-- the first n members have shown: what is left, what was shown, what was hidden -/
def spN (A : Nat → Nat → Int32) (p : Nat) : Nat → (Nat → Nat → Int32) × Int32 × Int32
  | 0 => (A, 0, 0)
  | n + 1 => sp1 p n (spN A p n)
/-- each of the first n members gets v -/
def shN (A : Nat → Nat → Int32) (p : Nat) (v : Int32) : Nat → Nat → Nat → Int32
  | 0 => A
  | n + 1 => add5 (shN A p v n) (memA (shN A p v n) p n) v
/-- the members of the pact p are fishers -/
def okP (A : Nat → Nat → Int32) (p n : Nat) : Prop := ∀ i, i < n → ∃ f, f < 8 ∧ A (75 + 2 * p) i = nI f
theorem spN_o {A : Nat → Nat → Int32} {p d k : Nat} : ∀ n, (∀ f, f < 8 → d ≠ 34 + 2 * f ∨ k ≠ 5) → okP A p n → (spN A p n).1 d k = A d k := sorry

theorem shN_o {A : Nat → Nat → Int32} {p d k : Nat} {v : Int32} : ∀ n, (∀ f, f < 8 → d ≠ 34 + 2 * f ∨ k ≠ 5) → okP A p n → shN A p v n d k = A d k := sorry

/-- a pact of n members splits -/
def splA (A : Nat → Nat → Int32) (p n : Nat) : Nat → Nat → Int32 :=
  up2 (up2 (up2 (add5 (shN (spN A p n).1 p ((spN A p n).2.1 / nI n) n) (memA A p 0) ((spN A p n).2.1 - (spN A p n).2.1 / nI n * nI n)) (74 + 2 * p) 5 (A (74 + 2 * p) 5 + (spN A p n).2.1)) (74 + 2 * p) 6 (A (74 + 2 * p) 6 + (spN A p n).2.2)) (74 + 2 * p) 7 (A (74 + 2 * p) 7 + (if (spN A p n).2.2 ≤ 0 then 0 else 1))
theorem sp_nz {A : Nat → Nat → Int32} {p : Nat} : ∀ n, okP A p n → (nz (spN A p n).1 = (spN (nz A) p n).1) ∧ (spN (nz A) p n).2 = (spN A p n).2 := sorry

theorem sh_nz {A : Nat → Nat → Int32} {p : Nat} {v : Int32} : ∀ n, nz (shN A p v n) = shN (nz A) p v n := sorry

theorem spl_nz {A : Nat → Nat → Int32} {p n : Nat} (hp : okP A p n) : nz (splA A p n) = splA (nz A) p n := sorry

theorem s7_spl1 {M : gMem} {o p n i f : Nat} {x y : Int32} {sg : Nat → Nat → Int32} (L : LC o M) (hp : p < 6) (hn : n ≤ 8) (en : sg (74 + 2 * p) 3 = nI n) (hi : i < n) (hf : f < 8) (ef : sg (75 + 2 * p) i = nI f) : bb_X7_split_23 (sC o sg M) o (some (o + (74 + 2 * p))) x y (nI i) = some (.inl (sC o (sp1 p i (sg, x, y)).1 M, (sp1 p i (sg, x, y)).2.1, (sp1 p i (sg, x, y)).2.2, nI (i + 1))) := sorry

theorem s7_spl2 {M : gMem} {o p n i f : Nat} {x y v : Int32} {sg : Nat → Nat → Int32} (L : LC o M) (hp : p < 6) (hn : n ≤ 8) (en : sg (74 + 2 * p) 3 = nI n) (hi : i < n) (hf : f < 8) (ef : sg (75 + 2 * p) i = nI f) : bb_X7_split_113 (sC o sg M) o (some (o + (74 + 2 * p))) x y v (nI i) = some (.inl (sC o (add5 sg (memA sg p i) v) M, nI (i + 1))) := sorry

theorem s7_split {M : gMem} {o p n : Nat} {sg : Nat → Nat → Int32} (L : LC o M) (hp : p < 6) (hn1 : 1 ≤ n) (hn : n ≤ 8) (en : sg (74 + 2 * p) 3 = nI n) (hP : okP sg p n) (hs : ¬ 0 ≤ sg (74 + 2 * p) 0) : f_X7_split (sC o sg M) o (some (o + (74 + 2 * p))) = some ((), sC o (splA sg p n) M) := sorry

theorem s7_split0 {M : gMem} {o p : Nat} {sg : Nat → Nat → Int32} (L : LC o M) (hp : p < 6) (hs : 0 ≤ sg (74 + 2 * p) 0) : f_X7_split (sC o sg M) o (some (o + (74 + 2 * p))) = some ((), sC o sg M) := sorry

/-- what was caught comes into the first n stores -/
def stA (A : Nat → Nat → Int32) : Nat → Nat → Nat → Int32
  | 0 => A
  | n + 1 => up2 (stA A n) (34 + 2 * n) 4 (A (34 + 2 * n) 4 + A (34 + 2 * n) 5)
theorem stA_o {A : Nat → Nat → Int32} {d k : Nat} : ∀ n, (∀ f, f < n → d ≠ 34 + 2 * f ∨ k ≠ 4) → stA A n d k = A d k := sorry

theorem st_nz {A : Nat → Nat → Int32} : ∀ n, nz (stA A n) = stA (nz A) n := sorry

theorem s7_storeCatches {M : gMem} {o n : Nat} {sg : Nat → Nat → Int32} (L : LC o M) (h : sg 0 3 = nI n) (hn : n ≤ 8) : f_X7_storeCatches (sC o sg M) o = some (sumN (fun i => sg (34 + 2 * i) 5) n, sC o (stA sg n) M) := sorry
