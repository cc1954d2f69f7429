/-- what holds from behind a taken token holds from ahead of it -/
theorem CR_sh {Z : Nat → Nat} {r p o j : Nat} {M0 M : gMem} {x : Option (Option (List (Nat × Nat)) × Nat)} {y : Option (Int32 × gMem)} (h : CRl Z r p o M0 (at' r j M) x y) : CRl Z r p o M0 M x y := sorry

theorem C_test {Z g ps vs : Nat → Nat} {K r p o : Nat} {M0 : gMem} (W : CWd Z g ps vs K r p o M0) {n : Nat} {F : Nat → gMem → Nat → Int32 → Option (Int32 × gMem)} (IH : ∀ j k d M, j < 7 → CI r o M0 M → mI M r 6 = nI k → k ≤ K → d ≤ 8 → CRl Z r p o M0 M (Px g n j k d) (F j M r (nI d))) {k d : Nat} {M : gMem} (C : CI r o M0 M) (h6 : mI M r 6 = nI k) (hk : k ≤ K) (hd : d ≤ 8) : CRl Z r p o M0 M (sq (Px g n 1 k d) (lpS g 22 22 (fun k => Px g n 1 k d) 401)) (fr_X6_test Z F M r (nI d)) := sorry

theorem C_both {Z g ps vs : Nat → Nat} {K r p o : Nat} {M0 : gMem} (W : CWd Z g ps vs K r p o M0) {n : Nat} {F : Nat → gMem → Nat → Int32 → Option (Int32 × gMem)} (IH : ∀ j k d M, j < 7 → CI r o M0 M → mI M r 6 = nI k → k ≤ K → d ≤ 8 → CRl Z r p o M0 M (Px g n j k d) (F j M r (nI d))) {k d : Nat} {M : gMem} (C : CI r o M0 M) (h6 : mI M r 6 = nI k) (hk : k ≤ K) (hd : d ≤ 8) : CRl Z r p o M0 M (sq (Px g n 2 k d) (lpS g 21 21 (fun k => Px g n 2 k d) 401)) (fr_X6_both Z F M r (nI d)) := sorry

theorem C_sum39 {Z g ps vs : Nat → Nat} {K r p o : Nat} {M0 : gMem} (W : CWd Z g ps vs K r p o M0) {n : Nat} {F : Nat → gMem → Nat → Int32 → Option (Int32 × gMem)} (IH : ∀ j k d M, j < 7 → CI r o M0 M → mI M r 6 = nI k → k ≤ K → d ≤ 8 → CRl Z r p o M0 M (Px g n j k d) (F j M r (nI d))) {k d c : Nat} {M : gMem} (C : CI r o M0 M) (h6 : mI M r 6 = nI k) (hk : k ≤ K) (hd : d ≤ 8) (hg : g k = 31 ∨ g k = 32) : match Px g n 5 (k + 1) d with
    | none => True
    | some (none, e) => ∃ M1, b_X6_sum_39 Z F M r (nI d) (nI c) = some (.inr ((0 : Int32), M1)) ∧ CI r o M0 M1 ∧ mI M1 r 6 = nI e
    | some (some es, e) => ∃ M1, b_X6_sum_39 Z F M r (nI d) (nI c) = some (.inl (adM Z o (g k) 0 M1, nI (c + 1))) ∧ CI r o M0 M1 ∧ mI M1 r 6 = nI e ∧ sim r M1 (rnE Z r p o es M) := sorry

theorem C_sum {Z g ps vs : Nat → Nat} {K r p o : Nat} {M0 : gMem} (W : CWd Z g ps vs K r p o M0) {n : Nat} {F : Nat → gMem → Nat → Int32 → Option (Int32 × gMem)} (IH : ∀ j k d M, j < 7 → CI r o M0 M → mI M r 6 = nI k → k ≤ K → d ≤ 8 → CRl Z r p o M0 M (Px g n j k d) (F j M r (nI d))) {k d : Nat} {M : gMem} (C : CI r o M0 M) (h6 : mI M r 6 = nI k) (hk : k ≤ K) (hd : d ≤ 8) : CRl Z r p o M0 M (sq (Px g n 5 k d) (lpS g 31 32 (fun k => Px g n 5 k d) 401)) (fr_X6_sum Z F M r (nI d)) := sorry

theorem C_product39 {Z g ps vs : Nat → Nat} {K r p o : Nat} {M0 : gMem} (W : CWd Z g ps vs K r p o M0) {n : Nat} {F : Nat → gMem → Nat → Int32 → Option (Int32 × gMem)} (IH : ∀ j k d M, j < 7 → CI r o M0 M → mI M r 6 = nI k → k ≤ K → d ≤ 8 → CRl Z r p o M0 M (Px g n j k d) (F j M r (nI d))) {k d c : Nat} {M : gMem} (C : CI r o M0 M) (h6 : mI M r 6 = nI k) (hk : k ≤ K) (hd : d ≤ 8) (hg : g k = 33 ∨ g k = 34) : match Px g n 6 (k + 1) d with
    | none => True
    | some (none, e) => ∃ M1, b_X6_product_39 Z F M r (nI d) (nI c) = some (.inr ((0 : Int32), M1)) ∧ CI r o M0 M1 ∧ mI M1 r 6 = nI e
    | some (some es, e) => ∃ M1, b_X6_product_39 Z F M r (nI d) (nI c) = some (.inl (adM Z o (g k) 0 M1, nI (c + 1))) ∧ CI r o M0 M1 ∧ mI M1 r 6 = nI e ∧ sim r M1 (rnE Z r p o es M) := sorry

theorem C_product {Z g ps vs : Nat → Nat} {K r p o : Nat} {M0 : gMem} (W : CWd Z g ps vs K r p o M0) {n : Nat} {F : Nat → gMem → Nat → Int32 → Option (Int32 × gMem)} (IH : ∀ j k d M, j < 7 → CI r o M0 M → mI M r 6 = nI k → k ≤ K → d ≤ 8 → CRl Z r p o M0 M (Px g n j k d) (F j M r (nI d))) {k d : Nat} {M : gMem} (C : CI r o M0 M) (h6 : mI M r 6 = nI k) (hk : k ≤ K) (hd : d ≤ 8) : CRl Z r p o M0 M (sq (Px g n 6 k d) (lpS g 33 34 (fun k => Px g n 6 k d) 401)) (fr_X6_product Z F M r (nI d)) := sorry

theorem C_comparedSum {Z g ps vs : Nat → Nat} {K r p o : Nat} {M0 : gMem} (W : CWd Z g ps vs K r p o M0) {n : Nat} {F : Nat → gMem → Nat → Int32 → Option (Int32 × gMem)} (IH : ∀ j k d M, j < 7 → CI r o M0 M → mI M r 6 = nI k → k ≤ K → d ≤ 8 → CRl Z r p o M0 M (Px g n j k d) (F j M r (nI d))) {k d : Nat} {M : gMem} (C : CI r o M0 M) (h6 : mI M r 6 = nI k) (hk : k ≤ K) (hd : d ≤ 8) : CRl Z r p o M0 M (if 35 ≤ g k ∧ g k ≤ 39 then sq (Px g n 4 (k + 1) d) (em (g k, k)) else ft k) (fr_X6_comparedSum Z F M r (nI d)) := sorry
