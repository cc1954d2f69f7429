/-! ## Pure: how many code words the events of a part make, how many names -/
def we : List (Nat × Nat) → Nat
  | [] => 0
  | x :: t => (if x.1 < 45 then wd x.1 else 0) + we t
def nmC (c : Nat) : Prop := c = 2 ∨ c = 4 ∨ c = 16 ∨ c = 17 ∨ c = 18 ∨ c = 19
def ne : List (Nat × Nat) → Nat
  | [] => 0
  | x :: t => (if x.1 = 2 ∨ x.1 = 4 ∨ x.1 = 16 ∨ x.1 = 17 ∨ x.1 = 18 ∨ x.1 = 19 then 1 else 0) + ne t
theorem we_app : ∀ (a b : List (Nat × Nat)), we (a ++ b) = we a + we b
  | [], b => by rw [List.nil_append, we, Nat.zero_add]
  | x :: t, b => by rw [List.cons_append, we, we, we_app t b]; omega
theorem ne_app : ∀ (a b : List (Nat × Nat)), ne (a ++ b) = ne a + ne b
  | [], b => by rw [List.nil_append, ne, Nat.zero_add]
  | x :: t, b => by rw [List.cons_append, ne, ne, ne_app t b]; omega
def WP (k a b : Nat) (x : Option (Option (List (Nat × Nat)) × Nat)) : Prop := ∀ es e, x = some (some es, e) → we es + 2 * k + a ≤ 2 * e + b ∧ ne es + k ≤ e
theorem WP_sq {k a b a1 b1 a2 b2 : Nat} {x : Option (Option (List (Nat × Nat)) × Nat)} {f : Nat → Option (Option (List (Nat × Nat)) × Nat)} (h1 : WP k a1 b1 x) (h2 : ∀ e, WP e a2 b2 (f e)) (hz : a + b1 + b2 ≤ b + a1 + a2) : WP k a b (sq x f) := by
  intro es e he
  match x, h1, he with
  | none, _, he => cases he
  | some (none, q1), _, he => cases he
  | some (some es1, q1), h1, he =>
    have x1 := h1 es1 q1 rfl
    have x2 := h2 q1
    unfold sq at he
    match c : f q1 with
    | none => simp only [c] at he; cases he
    | some (none, q2) => simp only [c] at he; cases he
    | some (some es2, q2) =>
      have x3 := x2 es2 q2 c
      simp only [c] at he
      cases he
      rw [we_app, ne_app]
      omega
theorem WP_tk {g : Nat → Nat} {q k : Nat} : WP k 2 0 (tk1 g q k) := by
  intro es e he
  obtain ⟨h1, h2, -⟩ := tk1_k he
  subst h1; subst h2
  have e1 : we [] = 0 := rfl
  have e2 : ne [] = 0 := rfl
  rw [e1, e2]
  omega
theorem WP_ft {k a b j : Nat} : WP k a b (ft j) := by
  intro es e he
  cases he
theorem WP_em {k c i j a b : Nat} (h : (if c < 45 then wd c else 0) + 2 * k + a ≤ 2 * j + b) (h2 : (if c = 2 ∨ c = 4 ∨ c = 16 ∨ c = 17 ∨ c = 18 ∨ c = 19 then 1 else 0) + k ≤ j) : WP k a b (em (c, i) j) := by
  intro es e he
  have e1 : [(c, i)] = es ∧ j = e := by
    unfold em at he
    injection he with he
    injection he with h3 h4
    injection h3 with h3
    exact ⟨h3, h4⟩
  rw [← e1.1, ← e1.2]
  have w1 : we [(c, i)] = (if c < 45 then wd c else 0) := rfl
  have w2 : ne [(c, i)] = (if c = 2 ∨ c = 4 ∨ c = 16 ∨ c = 17 ∨ c = 18 ∨ c = 19 then 1 else 0) := rfl
  rw [w1, w2]
  exact ⟨h, h2⟩
theorem WP_nil {k : Nat} : WP k 0 0 (some (some [], k)) := by
  intro es e he
  cases he
  exact ⟨by show 0 + 2 * k + 0 ≤ 2 * k + 0; omega, by show 0 + k ≤ k; omega⟩
theorem WP_if {k a b : Nat} {c : Prop} [Decidable c] {x y : Option (Option (List (Nat × Nat)) × Nat)} (h1 : c → WP k a b x) (h2 : ¬ c → WP k a b y) : WP k a b (if c then x else y) := by
  by_cases h : c
  · rw [if_pos h]; exact h1 h
  · rw [if_neg h]; exact h2 h
theorem WP_dn {k j a b a1 b1 : Nat} {x : Option (Option (List (Nat × Nat)) × Nat)} (h : WP j a1 b1 x) (hk : k ≤ j) (hz : 2 * k + a + b1 ≤ 2 * j + a1 + b) : WP k a b x := by
  intro es e he
  have := h es e he
  omega
theorem wd_0 : ∀ c, c < 45 → wd c ≤ 2 ∧ ((c = 20 ∨ c = 21 ∨ c = 22 ∨ c = 23 ∨ c = 24 ∨ c = 44 ∨ c = 15 ∨ (31 ≤ c ∧ c ≤ 39)) → wd c = 1) := by decide +kernel
theorem WP_op {k c i : Nat} (hc : c = 20 ∨ c = 21 ∨ c = 22 ∨ c = 23 ∨ c = 24 ∨ c = 44 ∨ c = 15 ∨ (31 ≤ c ∧ c ≤ 39)) : WP k 0 1 (em (c, i) k) := by
  refine WP_em ?_ ?_
  · rw [if_pos (by omega), (wd_0 c (by omega)).2 hc]; omega
  · rw [if_neg (by omega)]; omega
theorem WP_nm {g : Nat → Nat} {k c : Nat} (hc : c < 45) : WP k 0 0 (nm g c k) := by
  unfold nm
  refine WP_if (fun _ => WP_em ?_ ?_) (fun _ => WP_ft)
  · rw [if_pos hc]; have := (wd_0 c hc).1; omega
  · split <;> omega
theorem WP_lp {g : Nat → Nat} {a b : Nat} {f : Nat → Option (Option (List (Nat × Nat)) × Nat)} (ha : a = 21 ∨ a = 22 ∨ (31 ≤ a ∧ a ≤ 34)) (hb : b = 21 ∨ b = 22 ∨ (31 ≤ b ∧ b ≤ 34)) (hf : ∀ e, WP e 0 0 (f e)) : ∀ m k, WP k 0 0 (lpS g a b f m k)
  | 0, _ => by intro es e he; cases he
  | m + 1, k => by
    rw [lpS]
    refine WP_if (fun h => ?_) (fun _ => WP_nil)
    exact WP_sq (a1 := 2) (b1 := 0) (a2 := 0) (b2 := 1) (WP_dn (hf (k + 1)) (by omega) (by omega)) (fun e => WP_sq (a1 := 0) (b1 := 1) (a2 := 0) (b2 := 0) (WP_op (by rcases h with h | h <;> omega)) (fun e => WP_lp ha hb hf m e) (by omega)) (by omega)
theorem WP_Px {g : Nat → Nat} : ∀ n j k d, WP k 0 (if j = 3 then 0 else 0) (Px g n j k d)
  | 0, _, _, _ => by intro es e he; cases he
  | n + 1, j, k, d => by
    have IH : ∀ j k d, WP k 0 0 (Px g n j k d) := fun j k d => by
      have := WP_Px (g := g) n j k d
      by_cases c : j = 3
      · rw [if_pos c] at this; exact this
      · rw [if_neg c] at this; exact this
    have e0 : (if j = 3 then 0 else 0) = 0 := by split <;> rfl
    rw [e0, Px]
    have LP : ∀ a b j1, (a = 21 ∨ a = 22 ∨ (31 ≤ a ∧ a ≤ 34)) → (b = 21 ∨ b = 22 ∨ (31 ≤ b ∧ b ≤ 34)) → WP k 0 0 (sq (Px g n j1 k d) (lpS g a b (fun k => Px g n j1 k d) 401)) := fun a b j1 ha hb => WP_sq (a1 := 0) (b1 := 0) (a2 := 0) (b2 := 0) (IH j1 k d) (fun e => WP_lp ha hb (fun e => IH j1 e d) 401 e) (by omega)
    by_cases c0 : j = 0
    · rw [if_pos c0]; exact LP 22 22 1 (by decide) (by decide)
    rw [if_neg c0]
    by_cases c1 : j = 1
    · rw [if_pos c1]; exact LP 21 21 2 (by decide) (by decide)
    rw [if_neg c1]
    have dp : ∀ j1 d1 c i, (c = 20 ∨ c = 21 ∨ c = 22 ∨ c = 23 ∨ c = 24 ∨ c = 44 ∨ c = 15 ∨ (31 ≤ c ∧ c ≤ 39)) → WP k 0 0 (sq (Px g n j1 (k + 1) d1) (em (c, i))) := fun j1 d1 c i hc => WP_sq (a1 := 2) (b1 := 0) (a2 := 0) (b2 := 1) (WP_dn (IH j1 (k + 1) d1) (by omega) (by omega)) (fun e => WP_op hc) (by omega)
    have bk : ∀ j1 d1 q, WP k 0 0 (sq (Px g n j1 (k + 1) d1) (tk1 g q)) := fun j1 d1 q => WP_sq (a1 := 2) (b1 := 0) (a2 := 2) (b2 := 0) (WP_dn (IH j1 (k + 1) d1) (by omega) (by omega)) (fun e => WP_tk) (by omega)
    by_cases c2 : j = 2
    · rw [if_pos c2]
      refine WP_if (fun _ => WP_if (fun _ => WP_ft) (fun _ => dp 2 (d + 1) 20 k (by decide))) (fun _ => ?_)
      refine WP_if (fun _ => WP_if (fun _ => WP_ft) (fun _ => bk 0 (d + 1) 28)) (fun _ => ?_)
      exact WP_if (fun _ => WP_dn (WP_nm (by decide)) (by omega) (by omega)) (fun _ => WP_sq (a1 := 0) (b1 := 0) (a2 := 0) (b2 := 0) (IH 4 k d) (fun e => IH 3 e d) (by omega))
    rw [if_neg c2]
    by_cases c3 : j = 3
    · rw [if_pos c3]
      exact WP_if (fun h => dp 4 d (g k) k (by omega)) (fun _ => WP_ft)
    rw [if_neg c3]
    by_cases c4 : j = 4
    · rw [if_pos c4]; exact LP 31 32 5 (by decide) (by decide)
    rw [if_neg c4]
    by_cases c5 : j = 5
    · rw [if_pos c5]; exact LP 33 34 6 (by decide) (by decide)
    rw [if_neg c5]
    refine WP_if (fun _ => WP_em (by have := (wd_0 41 (by decide)).1; rw [if_pos (by decide)]; omega) (by rw [if_neg (by decide)]; omega)) (fun _ => ?_)
    refine WP_if (fun _ => WP_dn (k := k) (j := k + 1) (WP_op (by decide)) (by omega) (by omega)) (fun _ => ?_)
    refine WP_if (fun h => WP_dn (k := k) (j := k + 1) (WP_nm (by omega)) (by omega) (by omega)) (fun _ => ?_)
    refine WP_if (fun h => WP_dn (k := k) (j := k + 1) (WP_nm (by omega)) (by omega) (by omega)) (fun _ => ?_)
    refine WP_if (fun _ => WP_if (fun _ => WP_ft) (fun _ => dp 6 (d + 1) 44 k (by decide))) (fun _ => ?_)
    refine WP_if (fun _ => WP_if (fun _ => WP_ft) (fun _ => bk 4 (d + 1) 26)) (fun _ => ?_)
    refine WP_if (fun h => WP_if (fun _ => WP_ft) (fun _ => ?_)) (fun _ => WP_ft)
    refine WP_sq (a1 := 4) (b1 := 0) (a2 := 0) (b2 := 0) (WP_dn (k := k) (j := k + 1) WP_tk (by omega) (by omega)) (fun e => ?_) (by omega)
    refine WP_sq (a1 := 0) (b1 := 0) (a2 := 0) (b2 := 0) (IH 4 e (d + 1)) (fun e => ?_) (by omega)
    refine WP_sq (a1 := 2) (b1 := 0) (a2 := 0) (b2 := 0) WP_tk (fun e => ?_) (by omega)
    refine WP_sq (a1 := 0) (b1 := 0) (a2 := 0) (b2 := 0) (IH 4 e (d + 1)) (fun e => ?_) (by omega)
    exact WP_sq (a1 := 2) (b1 := 0) (a2 := 0) (b2 := 1) WP_tk (fun e => WP_op (by omega)) (by omega)

