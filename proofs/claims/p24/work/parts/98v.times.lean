/-! ## Pure: where the sums of goes and pacts stand: each event -/
theorem T1_54 {pg : Nat → Nat} {o t nO n x h h' : Nat} {C C' P P' : gMem} (T : T1 pg o t nO n x h C P) (hx : 1 ≤ nO → x = 4) (hC : ∀ i k, i < nO → (k = 2 ∨ k = 3) → mI C' (o + (50 + i)) k = mI C (o + (50 + i)) k) (hP : ∀ i, i < nO → mI P' (t + 11) i = mI P (t + 11) i ∧ mI P' (t + 12) i = mI P (t + 12) i) (hN : mI P' (t + 11) nO = nI (wds pg 0 n)) : T1 pg o t (nO + 1) n 1 h' C' P' := sorry

theorem T1_61 {pg : Nat → Nat} {o t l n h : Nat} {C C' P P' : gMem} (T : T1 pg o t (l + 1) n 2 h C P) (hC : ∀ i k, i < l + 1 → (k = 2 ∨ k = 3) → (i ≠ l ∨ k ≠ 2) → mI C' (o + (50 + i)) k = mI C (o + (50 + i)) k) (hN : mI C' (o + (50 + l)) 2 = nI n) (hP : ∀ i, i < l + 1 → mI P' (t + 11) i = mI P (t + 11) i ∧ mI P' (t + 12) i = mI P (t + 12) i) : T1 pg o t (l + 1) n 3 0 C' P' := sorry

theorem T1_64 {pg : Nat → Nat} {o t l n h h' : Nat} {C C' P P' : gMem} (T : T1 pg o t (l + 1) n 3 h C P) (hh : h = 0 ∨ h = 1) (hC : ∀ i k, i < l + 1 → (k = 2 ∨ k = 3) → (i ≠ l ∨ k ≠ 3) → mI C' (o + (50 + i)) k = mI C (o + (50 + i)) k) (hN : mI C' (o + (50 + l)) 3 = nI n) (hP : ∀ i, i < l + 1 → mI P' (t + 11) i = mI P (t + 11) i ∧ (i ≠ l → mI P' (t + 12) i = mI P (t + 12) i)) (hN2 : mI P' (t + 12) l = nI (wds pg 0 n)) : T1 pg o t (l + 1) n 4 h' C' P' := sorry

theorem T2_53 {pg : Nat → Nat} {o t nP n y h h' : Nat} {C C' P P' : gMem} (T : T2 pg o t nP n y h C P) (hy : y = 0 ∨ y = 2 ∨ y = 4) (hC : ∀ p k, p < nP → k ≤ 2 → mI C' (o + (74 + 2 * p)) k = mI C (o + (74 + 2 * p)) k) (hN : ∀ k, k ≤ 2 → mI C' (o + (74 + 2 * nP)) k = if k = 0 then -1 else 0) (hP : ∀ p, p < nP → mI P' (t + 13) p = mI P (t + 13) p ∧ mI P' (t + 14) p = mI P (t + 14) p) (hN2 : mI P' (t + 13) nP = nI (wds pg 0 n)) : T2 pg o t (nP + 1) n 1 h' C' P' := sorry

theorem T2_63 {pg : Nat → Nat} {o t l n h : Nat} {C C' P P' : gMem} (T : T2 pg o t (l + 1) n 2 h C P) (hC : ∀ p k, p < l + 1 → k ≤ 2 → (p ≠ l ∨ k = 2) → mI C' (o + (74 + 2 * p)) k = mI C (o + (74 + 2 * p)) k) (hN : mI C' (o + (74 + 2 * l)) 1 = nI n) (hP : ∀ p, p < l + 1 → mI P' (t + 13) p = mI P (t + 13) p ∧ mI P' (t + 14) p = mI P (t + 14) p) : T2 pg o t (l + 1) n 3 0 C' P' := sorry

theorem T2_65 {pg : Nat → Nat} {o t l n h h' : Nat} {C C' P P' : gMem} (T : T2 pg o t (l + 1) n 3 h C P) (hh : h = 1) (hC : ∀ p k, p < l + 1 → k ≤ 2 → (p ≠ l ∨ k ≠ 2) → mI C' (o + (74 + 2 * p)) k = mI C (o + (74 + 2 * p)) k) (hN : mI C' (o + (74 + 2 * l)) 2 = nI n) (hP : ∀ p, p < l + 1 → mI P' (t + 13) p = mI P (t + 13) p ∧ (p ≠ l → mI P' (t + 14) p = mI P (t + 14) p)) (hN2 : mI P' (t + 14) l = nI (wds pg 0 n)) : T2 pg o t (l + 1) n 4 h' C' P' := sorry

/-! the code -/
def nmP (c : Nat) : Prop := c = 2 ∨ c = 4 ∨ c = 16 ∨ c = 17 ∨ c = 18 ∨ c = 19
def nnP (pg : Nat → Nat) : Nat → Nat
  | 0 => 0
  | j + 1 => nnP pg j + if pg j = 2 ∨ pg j = 4 ∨ pg j = 16 ∨ pg j = 17 ∨ pg j = 18 ∨ pg j = 19 then 1 else 0
theorem nn_le {pg : Nat → Nat} : ∀ (n s : Nat), s ≤ n → nnP pg s ≤ nnP pg n := sorry

theorem nn_lt {pg : Nat → Nat} {n s : Nat} (h : s < n) (hs : nmP (pg s)) : nnP pg s < nnP pg n := sorry

theorem nn_n {pg : Nat → Nat} : ∀ n, nnP pg n ≤ n := sorry

theorem wds_1 {pg : Nat → Nat} {n : Nat} : wds pg 0 (n + 1) = wds pg 0 n + wd (pg n) := sorry

theorem wds_m {pg : Nat → Nat} : ∀ (n s : Nat), s ≤ n → wds pg 0 s ≤ wds pg 0 n := sorry

theorem wds_lt {pg : Nat → Nat} {n s : Nat} (h : s < n) : wds pg 0 s + wd (pg s) ≤ wds pg 0 n := sorry

theorem wd_1 {g : Nat} : 1 ≤ wd g ∧ wd g ≤ 2 := sorry

theorem wds_2 {pg : Nat → Nat} : ∀ n, wds pg 0 n ≤ 2 * n := sorry

def T3 (ef : Nat → Nat × Nat) (vs : Nat → Nat) (t n : Nat) (P : gMem) : Prop :=
  (mI P t 22 = nI (wds (fun s => (ef s).1) 0 n) ∧ mI P t 24 = nI (nnP (fun s => (ef s).1) n)) ∧ ∀ s, s < n → mI P (t + 15) (wds (fun s => (ef s).1) 0 s) = nI (opc (ef s).1) ∧ (nmP (ef s).1 → mI P (t + 15) (wds (fun s => (ef s).1) 0 s + 1) = nI (ef s).2 ∧ mI P (t + 16) (nnP (fun s => (ef s).1) s) = nI (wds (fun s => (ef s).1) 0 s + 1)) ∧ ((ef s).1 = 41 → mI P (t + 15) (wds (fun s => (ef s).1) 0 s + 1) = nI (vs (ef s).2))
theorem T3_fr {ef : Nat → Nat × Nat} {vs : Nat → Nat} {t n : Nat} {P P' : gMem} (T : T3 ef vs t n P) (h1 : mI P' t 22 = mI P t 22 ∧ mI P' t 24 = mI P t 24) (h2 : ∀ k, mI P' (t + 15) k = mI P (t + 15) k ∧ mI P' (t + 16) k = mI P (t + 16) k) : T3 ef vs t n P' := sorry

theorem pu_r {t L a k : Nat} {v : Int32} {X : gMem} (h : mI X t 22 = nI L) (hL : L < 2 ^ 30) : (a ≠ t → a ≠ t + 15 → mI (puM t v X) a k = mI X a k) ∧ (k ≠ 22 → mI (puM t v X) t k = mI X t k) ∧ mI (puM t v X) t 22 = nI (L + 1) ∧ mI (puM t v X) (t + 15) k = if k = L then v else mI X (t + 15) k := sorry

/-- a sign more -/
theorem T3_c {ef : Nat → Nat × Nat} {vs : Nat → Nat} {m t n c i : Nat} {P : gMem} (ht : m + 7 ≤ t) (T : T3 ef vs t n P) (hn : n < 400) (he : ef n = (c, i)) (hc : nmP c ∨ c = 41 ∨ (c = 15 ∨ c = 44 ∨ (20 ≤ c ∧ c ≤ 24) ∨ (31 ≤ c ∧ c ≤ 39))) : T3 ef vs t (n + 1) (mst1 vs m t c i P) ∧ ∀ j k, 11 ≤ j → j ≤ 14 → mI (mst1 vs m t c i P) (t + j) k = mI P (t + j) k := sorry
