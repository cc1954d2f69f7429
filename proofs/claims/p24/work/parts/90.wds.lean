/-! ## Pure: how many code words the events of a part make, how many names -/
def we : List (Nat × Nat) → Nat
  | [] => 0
  | x :: t => (if x.1 < 45 then wd x.1 else 0) + we t
def nmC (c : Nat) : Prop := c = 2 ∨ c = 4 ∨ c = 16 ∨ c = 17 ∨ c = 18 ∨ c = 19
def ne : List (Nat × Nat) → Nat
  | [] => 0
  | x :: t => (if x.1 = 2 ∨ x.1 = 4 ∨ x.1 = 16 ∨ x.1 = 17 ∨ x.1 = 18 ∨ x.1 = 19 then 1 else 0) + ne t
theorem we_app : ∀ (a b : List (Nat × Nat)), we (a ++ b) = we a + we b := sorry

theorem ne_app : ∀ (a b : List (Nat × Nat)), ne (a ++ b) = ne a + ne b := sorry

def WP (k a b : Nat) (x : Option (Option (List (Nat × Nat)) × Nat)) : Prop := ∀ es e, x = some (some es, e) → we es + 2 * k + a ≤ 2 * e + b ∧ ne es + k ≤ e
theorem WP_sq {k a b a1 b1 a2 b2 : Nat} {x : Option (Option (List (Nat × Nat)) × Nat)} {f : Nat → Option (Option (List (Nat × Nat)) × Nat)} (h1 : WP k a1 b1 x) (h2 : ∀ e, WP e a2 b2 (f e)) (hz : a + b1 + b2 ≤ b + a1 + a2) : WP k a b (sq x f) := sorry

theorem WP_tk {g : Nat → Nat} {q k : Nat} : WP k 2 0 (tk1 g q k) := sorry

theorem WP_ft {k a b j : Nat} : WP k a b (ft j) := sorry

theorem WP_em {k c i j a b : Nat} (h : (if c < 45 then wd c else 0) + 2 * k + a ≤ 2 * j + b) (h2 : (if c = 2 ∨ c = 4 ∨ c = 16 ∨ c = 17 ∨ c = 18 ∨ c = 19 then 1 else 0) + k ≤ j) : WP k a b (em (c, i) j) := sorry

theorem WP_nil {k : Nat} : WP k 0 0 (some (some [], k)) := sorry

theorem WP_if {k a b : Nat} {c : Prop} [Decidable c] {x y : Option (Option (List (Nat × Nat)) × Nat)} (h1 : c → WP k a b x) (h2 : ¬ c → WP k a b y) : WP k a b (if c then x else y) := sorry

theorem WP_dn {k j a b a1 b1 : Nat} {x : Option (Option (List (Nat × Nat)) × Nat)} (h : WP j a1 b1 x) (hk : k ≤ j) (hz : 2 * k + a + b1 ≤ 2 * j + a1 + b) : WP k a b x := sorry

theorem wd_0 : ∀ c, c < 45 → wd c ≤ 2 ∧ ((c = 20 ∨ c = 21 ∨ c = 22 ∨ c = 23 ∨ c = 24 ∨ c = 44 ∨ c = 15 ∨ (31 ≤ c ∧ c ≤ 39)) → wd c = 1) := sorry

theorem WP_op {k c i : Nat} (hc : c = 20 ∨ c = 21 ∨ c = 22 ∨ c = 23 ∨ c = 24 ∨ c = 44 ∨ c = 15 ∨ (31 ≤ c ∧ c ≤ 39)) : WP k 0 1 (em (c, i) k) := sorry

theorem WP_nm {g : Nat → Nat} {k c : Nat} (hc : c < 45) : WP k 0 0 (nm g c k) := sorry

theorem WP_lp {g : Nat → Nat} {a b : Nat} {f : Nat → Option (Option (List (Nat × Nat)) × Nat)} (ha : a = 21 ∨ a = 22 ∨ (31 ≤ a ∧ a ≤ 34)) (hb : b = 21 ∨ b = 22 ∨ (31 ≤ b ∧ b ≤ 34)) (hf : ∀ e, WP e 0 0 (f e)) : ∀ m k, WP k 0 0 (lpS g a b f m k) := sorry

theorem WP_Px {g : Nat → Nat} : ∀ n j k d, WP k 0 (if j = 3 then 0 else 0) (Px g n j k d) := sorry
