/-! ## Pure: fisher, took, blame, gap -/
theorem STv_w {Z : Nat → Nat} {b m o o' t n kb : Nat} {T : Nat → Nat} {M : gMem} (S : STv Z b m o o' t n kb T M) : ∃ pg len F G np nO, (len ≤ 400 ∧ PG Z pg o len M (cutF 86 o M) ∧ WS (cutF 86 o M) F G np nO ∧ WD (cutF 86 o M) F G ∧ TR pg len (cutF 86 o M) M t F G np nO ∧ RS (cutF 86 o M) (cutF 17 (m + 24) M) F G np ∧ SVa kb (cutF 86 o M) F G) ∧ G ≤ 8 ∧ F ≤ 8 ∧ mI M o 2 = nI G ∧ mI M o 3 = nI F ∧ mI (wI M m 0 0) t 0 = nI G ∧ mI (wI M m 0 0) t 4 = nI F ∧ mT M m = 13 := sorry

/-- the one who took the most -/
def blN (f : Nat → Int32) : Nat → Int32 × Int32
  | 0 => (-1, 0)
  | j + 1 => if f j ≤ (blN f j).2 then blN f j else (nI j, f j)
theorem blN_s {f : Nat → Int32} : ∀ n, ((blN f n).1 = -1 ∧ (blN f n).2 = 0) ∨ ∃ i, i < n ∧ (blN f n).1 = nI i ∧ (blN f n).2 = f i := sorry

theorem blN_c {f h : Nat → Int32} : ∀ n, (∀ i, i < n → f i = h i) → blN f n = blN h n := sorry

theorem gap_eq {f : Nat → Int32} : ∀ n, (∀ i, i < n + 1 → ∃ a, a < 2 ^ 31 ∧ f i = nI a) → grtN f (n + 1) = maxN f n ∧ lsN f (n + 1) = minN f n := sorry

theorem mm_c {f h : Nat → Int32} : ∀ n, (∀ i, i < n + 1 → f i = h i) → maxN f n = maxN h n ∧ minN f n = minN h n := sorry
