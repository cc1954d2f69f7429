/-! ## Pure: one event more: grounds and fishers -/
def RA (Z vs : Nat → Nat) (r o m t : Nat) (L1 L2 L3 : List Nat) (E : List (Nat × Nat)) (nO k : Nat) (q : Nat × Nat × Nat × Nat) (C D : gMem) : Prop :=
  mI C r 7 = 0 ∧ RG vs r o t L1 q.1 C D ∧ RF vs r o t L2 q.2.1 C D ∧ RO o t L2.length L1.length nO q.2.2.1 C D ∧ RP vs r o t L2.length L1.length L3 q.2.2.2 C D ∧ RV Z vs o m L2.length L1.length E k C D
theorem ER_k {r e i : Nat} {ps : Nat → Nat} {A B : gMem} (he : e ≠ 0) (he2 : e < 16) (h : ER r e i ps A) (k : kpE r A B) : ER r e i ps B := sorry

theorem X_J {Z g ps vs : Nat → Nat} {K r p o : Nat} {M0 : gMem} (W : CWd Z g ps vs K r p o M0) {X : gMem} (CX : CI r o M0 X) {i : Nat} (hi : i ≤ K) (hg : g i = 40 ∨ g i = 41) : mJ X (p + 4) i = lN (vs i) := sorry

theorem X_ps {Z g ps vs : Nat → Nat} {K r p o : Nat} {M0 : gMem} (W : CWd Z g ps vs K r p o M0) {X : gMem} (CX : CI r o M0 X) {i : Nat} (hi : i ≤ K) : mI X (p + 3) i = nI (ps i) := sorry

theorem ER_nt {Z g ps vs : Nat → Nat} {K r p o : Nat} {M0 : gMem} (W : CWd Z g ps vs K r p o M0) {X : gMem} (CX : CI r o M0 X) {i : Nat} (hi : i ≤ K) {e : Nat} (h7 : mI X r 7 = 0) : ER r e i ps (ntM r p (nI e) i X) := sorry

theorem kw_f {Z g ps vs : Nat → Nat} {K r p o : Nat} {M0 : gMem} (W : CWd Z g ps vs K r p o M0) {X : gMem} (CX : CI r o M0 X) {i : Nat} (hi : i ≤ K) {x j : Nat} {L : List Nat} (N : NL vs x L X) (hg : g i = 40) (hv : vs i < 2 ^ 62) (h : lkL vs (vs i) L 0 = some j) : kwM r p x i X = wI X r 8 (nI j) := sorry

theorem kw_n {Z g ps vs : Nat → Nat} {K r p o : Nat} {M0 : gMem} (W : CWd Z g ps vs K r p o M0) {X : gMem} (CX : CI r o M0 X) {i : Nat} (hi : i ≤ K) {x : Nat} {L : List Nat} (N : NL vs x L X) (hg : g i = 40) (hv : vs i < 2 ^ 62) (h : lkL vs (vs i) L 0 = none) (h7 : mI X r 7 = 0) : ER r 3 i ps (kwM r p x i X) := sorry

theorem nb_f {Z g ps vs : Nat → Nat} {K r p o : Nat} {M0 : gMem} (W : CWd Z g ps vs K r p o M0) {X : gMem} (CX : CI r o M0 X) {i : Nat} (hi : i ≤ K) {lo hh : Nat} (hg : g i = 41) (hv : vs i < 1000000) (hl : lo < 2 ^ 30) (hh2 : hh < 2 ^ 30) (h : lo ≤ vs i ∧ vs i ≤ hh) : nbM r p (nI lo) (nI hh) i X = wI X r 8 (nI (vs i)) := sorry

theorem nb_n {Z g ps vs : Nat → Nat} {K r p o : Nat} {M0 : gMem} (W : CWd Z g ps vs K r p o M0) {X : gMem} (CX : CI r o M0 X) {i : Nat} (hi : i ≤ K) {lo hh : Nat} (hg : g i = 41) (hv : vs i < 1000000) (hl : lo < 2 ^ 30) (hh2 : hh < 2 ^ 30) (h : ¬ (lo ≤ vs i ∧ vs i ≤ hh)) (h7 : mI X r 7 = 0) : ER r 5 i ps (nbM r p (nI lo) (nI hh) i X) := sorry

theorem nw_f {Z g ps vs : Nat → Nat} {K r p o : Nat} {M0 : gMem} (W : CWd Z g ps vs K r p o M0) {X : gMem} (CX : CI r o M0 X) {i : Nat} (hi : i ≤ K) {x : Nat} {L : List Nat} (N : NL vs x L X) (hg : g i = 40) (hv : vs i < 2 ^ 62) (h : lkL vs (vs i) L 0 = none) (hc : L.length < cap r x) : nwM r p x i X = wI (wJ X (x + 1) L.length (lN (vs i))) x 1 (nI (L.length + 1)) := sorry

theorem nw_c {Z g ps vs : Nat → Nat} {K r p o : Nat} {M0 : gMem} (W : CWd Z g ps vs K r p o M0) {X : gMem} (CX : CI r o M0 X) {i : Nat} (hi : i ≤ K) {x : Nat} {L : List Nat} (N : NL vs x L X) (hg : g i = 40) (hv : vs i < 2 ^ 62) (h : lkL vs (vs i) L 0 = none) (hc : ¬ L.length < cap r x) (h7 : mI X r 7 = 0) : ER r 4 i ps (nwM r p x i X) := sorry

theorem nw_d {Z g ps vs : Nat → Nat} {K r p o : Nat} {M0 : gMem} (W : CWd Z g ps vs K r p o M0) {X : gMem} (CX : CI r o M0 X) {i : Nat} (hi : i ≤ K) {x j : Nat} {L : List Nat} (N : NL vs x L X) (hg : g i = 40) (hv : vs i < 2 ^ 62) (h : lkL vs (vs i) L 0 = some j) (h7 : mI X r 7 = 0) : ER r 2 i ps (nwM r p x i X) := sorry

/-- a name more -/
theorem NL_s {vs : Nat → Nat} {x i : Nat} {L : List Nat} {X Y : gMem} (N : NL vs x L X) (h8 : L.length < 8) (hv : vs i < 2 ^ 62) (h1 : mI Y x 1 = nI (L.length + 1)) (h2 : ∀ j, mJ Y (x + 1) j = if j = L.length then lN (vs i) else mJ X (x + 1) j) : NL vs x (L ++ [i]) Y := sorry

theorem cp_r {S : Nat → Nat → Bool} {a b c k : Nat} {M : gMem} : mI (cpS S a b M) c k = if (c = a ∨ c = a + 1) ∧ S (c - a) k = true then mI M (b + (c - a)) k else mI M c k := sorry

theorem wJ_r {M : gMem} {a k b j : Nat} {v : Int64} : mJ (wJ M a k v) b j = if b = a ∧ j = k then v else mJ M b j := sorry
