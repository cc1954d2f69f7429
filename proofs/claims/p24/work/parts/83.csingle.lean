theorem kw_at {r i : Nat} {M : gMem} (h : mI M r 6 = nI i) : at' r i M = M := sorry

/-- a known name and what is added with it -/
theorem CR_kn {Z g ps vs : Nat → Nat} {K r p o : Nat} {M0 : gMem} (W : CWd Z g ps vs K r p o M0) {k c x : Nat} {M : gMem} {A B : gMem → Option (Int32 × gMem)} (C : CI r o M0 M) (h6 : mI M r 6 = nI k) (hk : k ≤ K) (hx : (x = r + 3 ∧ (c = 16 ∨ c = 17 ∨ c = 4 ∨ c = 19)) ∨ (x = r + 1 ∧ (c = 2 ∨ c = 18))) (hA : ∀ M1, CI r o M0 M1 → ∃ M2, A M1 = some ((0 : Int32), M2) ∧ CI r o M0 M2 ∧ mI M2 r 6 = mI M1 r 6) (hB : ∀ M1, CI r o M0 M1 → B M1 = some ((1 : Int32), adM Z o c (mI M1 r 8) M1)) : CRl Z r p o M0 M (nm g c k) (bd (f_X6_takeKnown Z M r (some x)) fun r1 M1 => if r1 = 0 then A M1 else B M1) := sorry

theorem C_303 {Z g ps vs : Nat → Nat} {K r p o : Nat} {M0 : gMem} (W : CWd Z g ps vs K r p o M0) {c : Nat} {v : Int32} {F : Nat → gMem → Nat → Int32 → Option (Int32 × gMem)} {M : gMem} (C : CI r o M0 M) (hc : c < 45) (hv : v = 0 ∨ v = 1) : b_X6_value_303 Z F M r (some (Z c)) v = some (v, adM Z o c (mI M r 8) M) := sorry

theorem C_A3 {Z g ps vs : Nat → Nat} {K r p o : Nat} {M0 : gMem} (W : CWd Z g ps vs K r p o M0) {c : Nat} {F : Nat → gMem → Nat → Int32 → Option (Int32 × gMem)} (hc : c < 45) : ∀ M1, CI r o M0 M1 → ∃ M2, b_X6_value_303 Z F M1 r (some (Z c)) 0 = some ((0 : Int32), M2) ∧ CI r o M0 M2 ∧ mI M2 r 6 = mI M1 r 6 := sorry

theorem nI_8 {d : Nat} (hd : d ≤ 8) : (8 : Int32) ≤ nI d ↔ 8 ≤ d := sorry

theorem C_single {Z g ps vs : Nat → Nat} {K r p o : Nat} {M0 : gMem} (W : CWd Z g ps vs K r p o M0) {n : Nat} {F : Nat → gMem → Nat → Int32 → Option (Int32 × gMem)} (IH : ∀ j k d M, j < 7 → CI r o M0 M → mI M r 6 = nI k → k ≤ K → d ≤ 8 → CRl Z r p o M0 M (Px g n j k d) (F j M r (nI d))) {k d : Nat} {M : gMem} (C : CI r o M0 M) (h6 : mI M r 6 = nI k) (hk : k ≤ K) (hd : d ≤ 8) : CRl Z r p o M0 M (if g k = 20 then (if 8 ≤ d then ft k else sq (Px g n 2 (k + 1) (d + 1)) (em (20, k)))
      else if g k = 27 then (if 8 ≤ d then ft k else sq (Px g n 0 (k + 1) (d + 1)) (tk1 g 28))
      else if g k = 19 then nm g 19 (k + 1)
      else sq (Px g n 4 k d) (fun k => Px g n 3 k d)) (fr_X6_single Z F M r (nI d)) := sorry
