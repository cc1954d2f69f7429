/-! ## Pure: how many signs a text adds -/
def cc : List (Nat × Nat) → Nat
  | [] => 0
  | x :: t => (if x.1 < 45 then 1 else 0) + cc t
theorem cc_app : ∀ (a b : List (Nat × Nat)), cc (a ++ b) = cc a + cc b := sorry

def CP (k a b : Nat) (x : Option (Option (List (Nat × Nat)) × Nat)) : Prop := ∀ es e, x = some (some es, e) → 2 * cc es + 2 * k + a ≤ 2 * e + b
theorem CP_sq {k a b a1 b1 a2 b2 : Nat} {x : Option (Option (List (Nat × Nat)) × Nat)} {f : Nat → Option (Option (List (Nat × Nat)) × Nat)} (h1 : CP k a1 b1 x) (h2 : ∀ e, CP e a2 b2 (f e)) (hz : a + b1 + b2 ≤ b + a1 + a2) : CP k a b (sq x f) := sorry

theorem CP_tk {g : Nat → Nat} {q k : Nat} : CP k 2 0 (tk1 g q k) := sorry

theorem CP_ft {k a b j : Nat} : CP k a b (ft j) := sorry

theorem CP_em {k c i j a b : Nat} (h : (if c < 45 then 2 else 0) + 2 * k + a ≤ 2 * j + b) : CP k a b (em (c, i) j) := sorry

theorem CP_nil {k : Nat} : CP k 0 0 (some (some [], k)) := sorry

theorem CP_if {k a b : Nat} {c : Prop} [Decidable c] {x y : Option (Option (List (Nat × Nat)) × Nat)} (h1 : c → CP k a b x) (h2 : ¬ c → CP k a b y) : CP k a b (if c then x else y) := sorry

theorem CP_dn {k j a b a1 b1 : Nat} {x : Option (Option (List (Nat × Nat)) × Nat)} (h : CP j a1 b1 x) (hk : k ≤ j) (hz : 2 * k + a + b1 ≤ 2 * j + a1 + b) : CP k a b x := sorry

theorem CP_op {k c i : Nat} : CP k 0 2 (em (c, i) k) := sorry

theorem CP_nm {g : Nat → Nat} {k c : Nat} : CP k 0 0 (nm g c k) := sorry

theorem CP_nb {g : Nat → Nat} {k c : Nat} : CP k 0 0 (nb g c k) := sorry

theorem CP_lp {g : Nat → Nat} {a b : Nat} {f : Nat → Option (Option (List (Nat × Nat)) × Nat)} (hf : ∀ e, CP e 0 0 (f e)) : ∀ m k, CP k 0 0 (lpS g a b f m k) := sorry

theorem CP_Px {g : Nat → Nat} : ∀ n j k d, CP k 0 (if j = 3 then 0 else 0) (Px g n j k d) := sorry

theorem CP_P {g : Nat → Nat} {n j k d : Nat} : CP k 0 0 (Px g n j k d) := sorry

theorem CP_t0 {g : Nat → Nat} {q k : Nat} : CP k 0 0 (tk1 g q k) := sorry

theorem CP_s0 {k : Nat} {x : Option (Option (List (Nat × Nat)) × Nat)} {f : Nat → Option (Option (List (Nat × Nat)) × Nat)} (h1 : CP k 0 0 x) (h2 : ∀ e, CP e 0 0 (f e)) : CP k 0 0 (sq x f) := sorry

theorem CP_e0 {k c i : Nat} (h : 45 ≤ c) : CP k 0 0 (em (c, i) k) := sorry

theorem CP_szL {g : Nat → Nat} : ∀ m s k, CP k 0 0 (szL g m s k) := sorry

theorem CP_mbL {g : Nat → Nat} : ∀ m k, CP k 0 0 (mbL g m k) := sorry

theorem CP_ln1 {g : Nat → Nat} {k : Nat} : CP k 0 0 (ln1 g k) := sorry

theorem CP_txL {g : Nat → Nat} : ∀ m k, CP k 0 0 (txL g m k) := sorry
