/-! ## Pure: the class's lines of a fisher and of a go -/
theorem sq_nil {x : Option (Option (List (Nat × Nat)) × Nat)} : sq x (fun k => some (some [], k)) = x := sorry

/-- an event ahead -/
theorem CR_pre {Z : Nat → Nat} {r p o k : Nat} {e : Nat × Nat} {M0 M M1 : gMem} {f : Nat → Option (Option (List (Nat × Nat)) × Nat)} {y : Option (Int32 × gMem)} (sm : sim r M1 (rnE Z r p o [e] M)) (h : CRl Z r p o M0 M1 (f k) y) : CRl Z r p o M0 M (sq (em e k) f) y := sorry

theorem C_lnF {Z g ps vs : Nat → Nat} {K r p o : Nat} {M0 : gMem} (W : CWd Z g ps vs K r p o M0) {k : Nat} {M : gMem} (C : CI r o M0 M) (h6 : mI M r 6 = nI k) (hk : k ≤ K) : CRl Z r p o M0 M (lnF g k) (f_X6_fisherLine Z M r) := sorry

theorem C_121 {Z g ps vs : Nat → Nat} {K r p o : Nat} {M0 : gMem} (W : CWd Z g ps vs K r p o M0) {k i c : Nat} {M : gMem} (C : CI r o M0 M) (h6 : mI M r 6 = nI k) (hk : k ≤ K) (hc : c = 64 ∨ c = 66) (hi : lsn M o 4 = i) (hi2 : i < 24) {j : Nat} : CRl Z r p o M0 M (em (c, j) k) (b_X6_goLine_121 Z M r (some (o + (50 + i)))) := sorry

theorem C_lnO {Z g ps vs : Nat → Nat} {K r p o : Nat} {M0 : gMem} (W : CWd Z g ps vs K r p o M0) {k : Nat} {M : gMem} (C : CI r o M0 M) (h6 : mI M r 6 = nI k) (hk : k ≤ K) (h7 : g k = 7) : CRl Z r p o M0 M (lnO g k) (f_X6_goLine Z M r) := sorry
