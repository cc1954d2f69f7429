/-! ## Pure: the lines of a text: facts, and enough fuel -/
theorem hC_z {c h : Nat} (hc : 50 ≤ c) (h1 : c ≠ 61 ∧ c ≠ 63 ∧ c ≠ 64 ∧ c ≠ 65 ∧ c ≠ 66) : hC c h = some h := sorry

theorem tkC_z {c : Nat} (hc : 50 ≤ c) (h1 : c ≠ 64 ∧ c ≠ 65 ∧ c ≠ 66) : tkC c = true := sorry

theorem rkP_7 (j : Nat) : rkP j ≤ 7 := sorry

def NN (g : Nat → Nat) (K k z : Nat) (x : Option (Option (List (Nat × Nat)) × Nat)) : Prop := FP g K k z 0 0 0 x ∧ x ≠ none
theorem NN_sq {g : Nat → Nat} {K k z z1 z2 : Nat} {x : Option (Option (List (Nat × Nat)) × Nat)} {f : Nat → Option (Option (List (Nat × Nat)) × Nat)} (h1 : NN g K k z1 x) (h2 : ∀ e, k + z1 ≤ e → e ≤ K → NN g K e z2 (f e)) (hz : z ≤ z1 + z2) : NN g K k z (sq x f) := sorry

theorem NN_tk {g : Nat → Nat} {K k a : Nat} (H : ∀ i, i ≤ K → g i < 42 → i + 1 ≤ K) (hk : k ≤ K) (ha : a < 42) : NN g K k 1 (tk1 g a k) := sorry

theorem NN_nm {g : Nat → Nat} {K k c : Nat} (H : ∀ i, i ≤ K → g i < 42 → i + 1 ≤ K) (hk : k ≤ K) (hc : c = 51 ∨ c = 52 ∨ c = 53 ∨ (60 ≤ c ∧ c ≤ 63)) : NN g K k 1 (nm g c k) := sorry

theorem NN_nb {g : Nat → Nat} {K k c : Nat} (H : ∀ i, i ≤ K → g i < 42 → i + 1 ≤ K) (hk : k ≤ K) (hc : (55 ≤ c ∧ c ≤ 59) ∨ 1000 ≤ c) : NN g K k 1 (nb g c k) := sorry

theorem NN_ft {g : Nat → Nat} {K k z e : Nat} (h : e ≤ K) : NN g K k z (ft e) := sorry

theorem NN_nil {g : Nat → Nat} {K k : Nat} (h : k ≤ K) : NN g K k 0 (some (some [], k)) := sorry

theorem NN_dn {g : Nat → Nat} {K k k1 z z1 : Nat} {x : Option (Option (List (Nat × Nat)) × Nat)} (h : NN g K k1 z1 x) (hk : k ≤ k1) (hz : k + z ≤ k1 + z1) : NN g K k z x := sorry

theorem NN_szL {g : Nat → Nat} {K : Nat} (H : ∀ i, i ≤ K → g i < 42 → i + 1 ≤ K) : ∀ m s k, k ≤ K → K + 1 ≤ m + k → NN g K k 0 (szL g m s k) := sorry

theorem NN_mbL {g : Nat → Nat} {K : Nat} (H : ∀ i, i ≤ K → g i < 42 → i + 1 ≤ K) : ∀ m k, k ≤ K → K + 1 ≤ m + k → NN g K k 0 (mbL g m k) := sorry

theorem NN_lnG {g : Nat → Nat} {K k : Nat} (H : ∀ i, i ≤ K → g i < 42 → i + 1 ≤ K) (hK : K ≤ 400) (hk : k ≤ K) : NN g K k 1 (lnG g k) := sorry

theorem NN_lnF {g : Nat → Nat} {K k : Nat} (H : ∀ i, i ≤ K → g i < 42 → i + 1 ≤ K) (hk : k ≤ K) : NN g K k 1 (lnF g k) := sorry

theorem NN_Px {g : Nat → Nat} {K k j : Nat} {c i : Nat} (H : ∀ i, i ≤ K → g i < 42 → i + 1 ≤ K) (hK : K ≤ 400) (hk : k ≤ K) (hj : j ≠ 3) (hc : c = 64 ∨ c = 65) : NN g K k 0 (sq (Px g 64 j k 0) (em (c, i))) := sorry

theorem NN_lnO {g : Nat → Nat} {K k : Nat} (H : ∀ i, i ≤ K → g i < 42 → i + 1 ≤ K) (hK : K ≤ 400) (hk : k ≤ K) : NN g K k 1 (lnO g k) := sorry

theorem NN_lnP {g : Nat → Nat} {K k : Nat} (H : ∀ i, i ≤ K → g i < 42 → i + 1 ≤ K) (hK : K ≤ 400) (hk : k ≤ K) : NN g K k 1 (lnP g k) := sorry

theorem NN_ln1 {g : Nat → Nat} {K k : Nat} (H : ∀ i, i ≤ K → g i < 42 → i + 1 ≤ K) (hK : K ≤ 400) (hk : k ≤ K) : NN g K k 1 (ln1 g k) := sorry

theorem NN_txL {g : Nat → Nat} {K : Nat} (H : ∀ i, i ≤ K → g i < 42 → i + 1 ≤ K) (hK : K ≤ 400) : ∀ m k, k ≤ K → K + 1 ≤ m + k → NN g K k 0 (txL g m k) := sorry
