/-! ## Pure: the reader's rows over its world -/
theorem W_o {Z g ps vs : Nat → Nat} {K r p o : Nat} {M0 M : gMem} (W : CWd Z g ps vs K r p o M0) (C : CI r o M0 M) : CB r p o M ∧ CT Z g ps vs K p M := sorry

theorem W_ho {Z g ps vs : Nat → Nat} {K r p o : Nat} {M0 : gMem} (W : CWd Z g ps vs K r p o M0) : p + 5 ≤ o ∧ o + 86 ≤ r := sorry

theorem W_fr {Z g ps vs : Nat → Nat} {K r p o : Nat} {M0 M : gMem} (W : CWd Z g ps vs K r p o M0) (C : CI r o M0 M) : FRS o M := sorry

theorem C_sign {Z g ps vs : Nat → Nat} {K r p o : Nat} {M0 M : gMem} (W : CWd Z g ps vs K r p o M0) (C : CI r o M0 M) {k : Nat} (h6 : mI M r 6 = nI k) (hk : k ≤ K) : f_X6_sign M r = some (some (Z (g k)), M) := sorry

theorem C_note {e : Int32} {Z g ps vs : Nat → Nat} {K r p o : Nat} {M0 M : gMem} (W : CWd Z g ps vs K r p o M0) (C : CI r o M0 M) {k : Nat} (h6 : mI M r 6 = nI k) (hk : k ≤ K) : f_X6_noteError M r e = some ((), ntM r p e k M) := sorry

theorem C_take {a : Nat} {Z g ps vs : Nat → Nat} {K r p o : Nat} {M0 M : gMem} (W : CWd Z g ps vs K r p o M0) (C : CI r o M0 M) {k : Nat} (h6 : mI M r 6 = nI k) (hk : k ≤ K) (ha : a < 42) : f_X6_take M r (some (Z a)) = if g k = a then some ((1 : Int32), at' r (k + 1) M) else some ((0 : Int32), M) := sorry

theorem C_find {x : Nat} {w : Int64} {Z g ps vs : Nat → Nat} {K r p o : Nat} {M0 M : gMem} (W : CWd Z g ps vs K r p o M0) (C : CI r o M0 M) (hx : isX r x) : f_X4_find M x w = some (fnd M x w, M) := sorry

theorem at_k {r k : Nat} {M : gMem} : mI (at' r k M) r 6 = nI k := sorry

theorem nt_6 {r p k : Nat} {e : Int32} {M : gMem} : mI (ntM r p e k M) r 6 = mI M r 6 := sorry

theorem kw_6 {r p x k : Nat} {M : gMem} : mI (kwM r p x k M) r 6 = mI M r 6 := sorry

theorem nb_6 {r p k : Nat} {lo hi : Int32} {M : gMem} : mI (nbM r p lo hi k M) r 6 = mI M r 6 := sorry

theorem nw_6 {r p x k : Nat} {M : gMem} (hx : isX r x) : mI (nwM r p x k M) r 6 = mI M r 6 := sorry

theorem C_t40 {a : Nat} {M1 : gMem} {Z g ps vs : Nat → Nat} {K r p o : Nat} {M0 M : gMem} (W : CWd Z g ps vs K r p o M0) (C : CI r o M0 M) {k : Nat} (h6 : mI M r 6 = nI k) (hk : k ≤ K) (ha : a < 42) (hg : g k = a) : (bd (f_X6_take M r (some (Z a))) fun r1 M1 => ck (r1 = 0 ∨ r1 = 1) <| some (r1, M1)) = some ((1 : Int32), at' r (k + 1) M) := sorry

theorem C_known {x : Nat} {Z g ps vs : Nat → Nat} {K r p o : Nat} {M0 M : gMem} (W : CWd Z g ps vs K r p o M0) (C : CI r o M0 M) {k : Nat} (h6 : mI M r 6 = nI k) (hk : k ≤ K) (hx : isX r x) : f_X6_takeKnown Z M r (some x) = if g k = 40 then some ((1 : Int32), at' r (k + 1) (kwM r p x k M)) else some ((0 : Int32), M) := sorry

theorem C_num {lo hi : Int32} {Z g ps vs : Nat → Nat} {K r p o : Nat} {M0 M : gMem} (W : CWd Z g ps vs K r p o M0) (C : CI r o M0 M) {k : Nat} (h6 : mI M r 6 = nI k) (hk : k ≤ K) : f_X6_takeNumber Z M r lo hi = if g k = 41 then some ((1 : Int32), at' r (k + 1) (nbM r p lo hi k M)) else some ((0 : Int32), M) := sorry

theorem C_addn {x a : Nat} {w : Int64} {Z g ps vs : Nat → Nat} {K r p o : Nat} {M0 M : gMem} (W : CWd Z g ps vs K r p o M0) (C : CI r o M0 M) (hx : isX r x) (ha : a ≤ cap r x) (h1 : mI M x 1 = nI a) : f_X4_add M x w = if a < cap r x then some ((1 : Int32), wI (wJ M (x + 1) a w) x 1 (nI (a + 1))) else some ((0 : Int32), M) := sorry

theorem C_new {x : Nat} {Z g ps vs : Nat → Nat} {K r p o : Nat} {M0 M : gMem} (W : CWd Z g ps vs K r p o M0) (C : CI r o M0 M) {k : Nat} (h6 : mI M r 6 = nI k) (hk : k ≤ K) (hx : isX r x) : f_X6_takeNew Z M r (some x) = if g k = 40 then some ((1 : Int32), at' r (k + 1) (nwM r p x k M)) else some ((0 : Int32), M) := sorry
