/-! ## Pure: the class's line of a pact -/
def shI (o : Nat) (M : gMem) : Nat → Nat → Int32 := fun d k => mI M (o + d) k
theorem shI_s (o : Nat) (M : gMem) : sC o (shI o M) M = M := sorry

theorem C_has {Z g ps vs : Nat → Nat} {K r p o : Nat} {M0 : gMem} (W : CWd Z g ps vs K r p o M0) {i n : Nat} {v : Int32} {M : gMem} (C : CI r o M0 M) (hi : i < 6) : f_X5_has M (o + (74 + 2 * i)) v = some (cif (hsP M o i v) 1 0, M) := sorry

theorem pa_at {r a j : Nat} {v : Int32} {M : gMem} (h : a ≠ r ∧ a + 1 ≠ r) : paM a v (at' r j M) = at' r j (paM a v M) := sorry

theorem C_memb {Z g ps vs : Nat → Nat} {K r p o : Nat} {M0 : gMem} (W : CWd Z g ps vs K r p o M0) {k : Nat} {M : gMem} (C : CI r o M0 M) (h6 : mI M r 6 = nI k) (hk : k ≤ K) : f_X6_takeMember Z M r (some (o + (74 + 2 * lsn M o 5))) = if g k = 40 then some ((1 : Int32), at' r (k + 1) (stp1 Z r p o 62 k M)) else some ((0 : Int32), M) := sorry

theorem lp_oI1 {α β : Type} {f : α → Option (α ⊕ β)} {a : α} {x : Option β} (h : f a = oI x) : lp f a = x := sorry

/-- members, and what follows them -/
theorem C_mbL {Z g ps vs : Nat → Nat} {K r p o : Nat} {M0 : gMem} (W : CWd Z g ps vs K r p o M0) {i : Nat} {f : Nat → Option (Option (List (Nat × Nat)) × Nat)} (hB : ∀ M k, CI r o M0 M → mI M r 6 = nI k → k ≤ K → lsn M o 5 = i → CRl Z r p o M0 M (f k) (b_X6_pactLine_86 Z M r (some (o + (74 + 2 * i))))) : ∀ m c k M, CI r o M0 M → mI M r 6 = nI k → k ≤ K → c < k → lsn M o 5 = i → CRl Z r p o M0 M (sq (mbL g m k) f) (lp_X6_pactLine_53 Z M r (some (o + (74 + 2 * i))) (nI c)) := sorry

theorem C_86 {Z g ps vs : Nat → Nat} {K r p o : Nat} {M0 : gMem} (W : CWd Z g ps vs K r p o M0) {i k : Nat} {M : gMem} (C : CI r o M0 M) (h6 : mI M r 6 = nI k) (hk : k ≤ K) (hi : lsn M o 5 = i) (hi2 : i < 6) : CRl Z r p o M0 M (if g k = 12 then some (some [], k + 1) else sq (tk1 g 13 k) fun k => sq (nm g 63 k) fun k => sq (tk1 g 14 k) fun k => sq (Px g 64 4 k 0) (em (65, k))) (b_X6_pactLine_86 Z M r (some (o + (74 + 2 * i)))) := sorry

theorem C_lnP {Z g ps vs : Nat → Nat} {K r p o : Nat} {M0 : gMem} (W : CWd Z g ps vs K r p o M0) {k : Nat} {M : gMem} (C : CI r o M0 M) (h6 : mI M r 6 = nI k) (hk : k ≤ K) : CRl Z r p o M0 M (lnP g k) (f_X6_pactLine Z M r) := sorry
