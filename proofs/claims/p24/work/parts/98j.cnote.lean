/-! ## Pure: an event in the class's memory: what is found, what is noted -/
theorem lN_tI {a : Nat} (ha : a < 2 ^ 62) : (lN a).toInt = a := sorry

theorem lN_nj {a b : Nat} (ha : a < 2 ^ 62) (hb : b < 2 ^ 62) (h : lN a = lN b) : a = b := sorry

theorem lN_32 (v : Nat) : Int64.toInt32 (lN v) = nI v := sorry

/-- the names of L stand in the row x -/
def NL (vs : Nat → Nat) (x : Nat) (L : List Nat) (M : gMem) : Prop := mI M x 1 = nI L.length ∧ L.length ≤ 8 ∧ (∀ j (h : j < L.length), mJ M (x + 1) j = lN (vs L[j])) ∧ ∀ i ∈ L, vs i < 2 ^ 62
theorem lkL_lt {vs : Nat → Nat} {v : Nat} : ∀ {L : List Nat} {c k : Nat}, lkL vs v L c = some k → c ≤ k ∧ k < c + L.length := sorry

theorem fndN_L {vs : Nat → Nat} {v : Nat} {row : Nat → Int64} (hv : v < 2 ^ 62) : ∀ (L : List Nat) (c : Nat), (∀ i ∈ L, vs i < 2 ^ 62) → (∀ j (h : j < L.length), row (c + j) = lN (vs L[j])) → fndN (fun i => decide (row i = lN v)) L.length c = lkL vs v L c := sorry

theorem fnd_L {vs : Nat → Nat} {x v : Nat} {L : List Nat} {M : gMem} (N : NL vs x L M) (hv : v < 2 ^ 62) : fnd M x (lN v) = tdV (lkL vs v L 0) := sorry

/-- the first error of all stands -/
def ER (r : Nat) (e i : Nat) (ps : Nat → Nat) (M : gMem) : Prop := mI M r 7 = nI e ∧ mI M r 0 = nI (ps i)
theorem nt_0 {r p i : Nat} {e : Int32} {M : gMem} (h : mI M r 7 = 0) : ntM r p e i M = wI (wI M r 7 e) r 0 (mI M (p + 3) i) := sorry

theorem nt_1 {r p i : Nat} {e : Int32} {M : gMem} (h : mI M r 7 ≠ 0) : ntM r p e i M = M := sorry

/-- nothing of the error is touched -/
def kpE (r : Nat) (M M1 : gMem) : Prop := mI M r 7 ≠ 0 → mI M1 r 7 = mI M r 7 ∧ mI M1 r 0 = mI M r 0
theorem kp_r {r : Nat} {M : gMem} : kpE r M M := sorry

theorem kp_t {r : Nat} {A B C : gMem} (h1 : kpE r A B) (h2 : kpE r B C) : kpE r A C := sorry

theorem kp_w {r a k : Nat} {v : Int32} {M : gMem} (h : a ≠ r ∨ (k ≠ 7 ∧ k ≠ 0)) : kpE r M (wI M a k v) := sorry

theorem kp_n {r p i : Nat} {e : Int32} {M : gMem} : kpE r M (ntM r p e i M) := sorry

theorem kp_k {r p x i : Nat} {M : gMem} : kpE r M (kwM r p x i M) := sorry

theorem kp_b {r p i : Nat} {lo hi : Int32} {M : gMem} : kpE r M (nbM r p lo hi i M) := sorry

theorem kp_nw {r p x i : Nat} {M : gMem} (hx : isX r x) : kpE r M (nwM r p x i M) := sorry

theorem kp_ad {Z : Nat → Nat} {r o c : Nat} {v : Int32} {M : gMem} (ho : o + 86 ≤ r) : kpE r M (adM Z o c v M) := sorry

theorem kp_cp {S : Nat → Nat → Bool} {r a b : Nat} {M : gMem} (h : a + 1 < r) : kpE r M (cpS S a b M) := sorry

theorem kp_pa {r a : Nat} {v : Int32} {M : gMem} (h : a + 1 < r) : kpE r M (paM a v M) := sorry

theorem kp_s {Z : Nat → Nat} {r p o c i : Nat} {M : gMem} (ho : o + 86 ≤ r) (n2 : lsn M o 2 < 8) (n3 : lsn M o 3 < 8) (n4 : lsn M o 4 < 24) (n5 : lsn M o 5 < 6) : kpE r M (stp1 Z r p o c i M) := sorry

/-- an error once noted stays, whatever follows -/
theorem kp_rn {Z g ps vs : Nat → Nat} {K r p o : Nat} {M0 : gMem} (W : CWd Z g ps vs K r p o M0) : ∀ (a : List (Nat × Nat)) (M : gMem), CI r o M0 M → kpE r M (rnE Z r p o a M) := sorry
