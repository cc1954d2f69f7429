theorem CR_v303 {Z g ps vs : Nat → Nat} {K r p o : Nat} {M0 : gMem} (W : CWd Z g ps vs K r p o M0) {k c i : Nat} {F : Nat → gMem → Nat → Int32 → Option (Int32 × gMem)} {M : gMem} (C : CI r o M0 M) (h6 : mI M r 6 = nI k) (hk : k ≤ K) (hc : c = 15 ∨ c = 44 ∨ c = 23 ∨ c = 24) : CRl Z r p o M0 M (em (c, i) k) (b_X6_value_303 Z F M r (some (Z c)) 1) := sorry

theorem C_value {Z g ps vs : Nat → Nat} {K r p o : Nat} {M0 : gMem} (W : CWd Z g ps vs K r p o M0) {n : Nat} {F : Nat → gMem → Nat → Int32 → Option (Int32 × gMem)} (IH : ∀ j k d M, j < 7 → CI r o M0 M → mI M r 6 = nI k → k ≤ K → d ≤ 8 → CRl Z r p o M0 M (Px g n j k d) (F j M r (nI d))) {k d : Nat} {M : gMem} (C : CI r o M0 M) (h6 : mI M r 6 = nI k) (hk : k ≤ K) (hd : d ≤ 8) : CRl Z r p o M0 M (if g k = 41 then em (41, k) (k + 1)
      else if g k = 15 then em (15, k) (k + 1)
      else if g k = 16 ∨ g k = 17 ∨ g k = 4 then nm g (g k) (k + 1)
      else if g k = 2 ∨ g k = 18 then nm g (g k) (k + 1)
      else if g k = 32 then (if 8 ≤ d then ft k else sq (Px g n 6 (k + 1) (d + 1)) (em (44, k)))
      else if g k = 25 then (if 8 ≤ d then ft k else sq (Px g n 4 (k + 1) (d + 1)) (tk1 g 26))
      else if g k = 23 ∨ g k = 24 then
        (if 8 ≤ d then ft (k + 1) else sq (tk1 g 25 (k + 1)) fun k1 => sq (Px g n 4 k1 (d + 1)) fun k2 => sq (tk1 g 30 k2) fun k3 => sq (Px g n 4 k3 (d + 1)) fun k4 => sq (tk1 g 26 k4) (em (g k, k)))
      else ft k) (fr_X6_value Z F M r (nI d)) := sorry

/-- tests and sums: the class's recursion says what Px says -/
theorem C_Px {Z g ps vs : Nat → Nat} {K r p o : Nat} {M0 : gMem} (W : CWd Z g ps vs K r p o M0) : ∀ n j k d M, j < 7 → CI r o M0 M → mI M r 6 = nI k → k ≤ K → d ≤ 8 → CRl Z r p o M0 M (Px g n j k d) (fX6R Z n j M r (nI d)) := sorry
