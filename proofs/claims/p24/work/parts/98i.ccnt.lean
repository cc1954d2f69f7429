/-! ## Pure: how many signs a text adds -/
def cc : List (Nat × Nat) → Nat
  | [] => 0
  | x :: t => (if x.1 < 45 then 1 else 0) + cc t
theorem cc_app : ∀ (a b : List (Nat × Nat)), cc (a ++ b) = cc a + cc b
  | [], b => by rw [List.nil_append, cc, Nat.zero_add]
  | x :: t, b => by rw [List.cons_append, cc, cc, cc_app t b]; omega
def CP (k a b : Nat) (x : Option (Option (List (Nat × Nat)) × Nat)) : Prop := ∀ es e, x = some (some es, e) → 2 * cc es + 2 * k + a ≤ 2 * e + b
theorem CP_sq {k a b a1 b1 a2 b2 : Nat} {x : Option (Option (List (Nat × Nat)) × Nat)} {f : Nat → Option (Option (List (Nat × Nat)) × Nat)} (h1 : CP k a1 b1 x) (h2 : ∀ e, CP e a2 b2 (f e)) (hz : a + b1 + b2 ≤ b + a1 + a2) : CP k a b (sq x f) := by
  intro es e he
  match x, h1, he with
  | none, _, he => cases he
  | some (none, q1), _, he => cases he
  | some (some es1, q1), h1, he =>
    have x1 := h1 es1 q1 rfl
    have x2 := h2 q1
    unfold sq at he
    match c : f q1 with
    | none => simp only [c] at he; cases he
    | some (none, q2) => simp only [c] at he; cases he
    | some (some es2, q2) =>
      have x3 := x2 es2 q2 c
      simp only [c] at he
      cases he
      rw [cc_app]
      omega
theorem CP_tk {g : Nat → Nat} {q k : Nat} : CP k 2 0 (tk1 g q k) := by
  intro es e he
  obtain ⟨h1, h2, -⟩ := tk1_k he
  subst h1; subst h2
  have e1 : cc [] = 0 := rfl
  rw [e1]
  omega
theorem CP_ft {k a b j : Nat} : CP k a b (ft j) := by
  intro es e he
  cases he
theorem CP_em {k c i j a b : Nat} (h : (if c < 45 then 2 else 0) + 2 * k + a ≤ 2 * j + b) : CP k a b (em (c, i) j) := by
  intro es e he
  have e1 : [(c, i)] = es ∧ j = e := by
    unfold em at he
    injection he with he
    injection he with h3 h4
    injection h3 with h3
    exact ⟨h3, h4⟩
  rw [← e1.1, ← e1.2]
  have w1 : 2 * cc [(c, i)] = if c < 45 then 2 else 0 := by
    show 2 * ((if c < 45 then 1 else 0) + 0) = _
    split <;> rfl
  rw [w1]
  exact h
theorem CP_nil {k : Nat} : CP k 0 0 (some (some [], k)) := by
  intro es e he
  cases he
  show 2 * 0 + 2 * k + 0 ≤ 2 * k + 0
  omega
theorem CP_if {k a b : Nat} {c : Prop} [Decidable c] {x y : Option (Option (List (Nat × Nat)) × Nat)} (h1 : c → CP k a b x) (h2 : ¬ c → CP k a b y) : CP k a b (if c then x else y) := by
  by_cases h : c
  · rw [if_pos h]; exact h1 h
  · rw [if_neg h]; exact h2 h
theorem CP_dn {k j a b a1 b1 : Nat} {x : Option (Option (List (Nat × Nat)) × Nat)} (h : CP j a1 b1 x) (hk : k ≤ j) (hz : 2 * k + a + b1 ≤ 2 * j + a1 + b) : CP k a b x := by
  intro es e he
  have := h es e he
  omega
theorem CP_op {k c i : Nat} : CP k 0 2 (em (c, i) k) := CP_em (by split <;> omega)
theorem CP_nm {g : Nat → Nat} {k c : Nat} : CP k 0 0 (nm g c k) := by
  unfold nm
  exact CP_if (fun _ => CP_em (by split <;> omega)) (fun _ => CP_ft)
theorem CP_nb {g : Nat → Nat} {k c : Nat} : CP k 0 0 (nb g c k) := by
  unfold nb
  exact CP_if (fun _ => CP_em (by split <;> omega)) (fun _ => CP_ft)
theorem CP_lp {g : Nat → Nat} {a b : Nat} {f : Nat → Option (Option (List (Nat × Nat)) × Nat)} (hf : ∀ e, CP e 0 0 (f e)) : ∀ m k, CP k 0 0 (lpS g a b f m k)
  | 0, _ => by intro es e he; cases he
  | m + 1, k => by
    rw [lpS]
    refine CP_if (fun h => ?_) (fun _ => CP_nil)
    exact CP_sq (a1 := 2) (b1 := 0) (a2 := 0) (b2 := 2) (CP_dn (hf (k + 1)) (by omega) (by omega)) (fun e => CP_sq (a1 := 0) (b1 := 2) (a2 := 0) (b2 := 0) CP_op (fun e => CP_lp hf m e) (by omega)) (by omega)
theorem CP_Px {g : Nat → Nat} : ∀ n j k d, CP k 0 (if j = 3 then 0 else 0) (Px g n j k d)
  | 0, _, _, _ => by intro es e he; cases he
  | n + 1, j, k, d => by
    have IH : ∀ j k d, CP k 0 0 (Px g n j k d) := fun j k d => by
      have := CP_Px (g := g) n j k d
      by_cases c : j = 3
      · rw [if_pos c] at this; exact this
      · rw [if_neg c] at this; exact this
    have e0 : (if j = 3 then 0 else 0) = 0 := by split <;> rfl
    rw [e0, Px]
    have LP : ∀ a b j1, (a = 21 ∨ a = 22 ∨ (31 ≤ a ∧ a ≤ 34)) → (b = 21 ∨ b = 22 ∨ (31 ≤ b ∧ b ≤ 34)) → CP k 0 0 (sq (Px g n j1 k d) (lpS g a b (fun k => Px g n j1 k d) 401)) := fun a b j1 ha hb => CP_sq (a1 := 0) (b1 := 0) (a2 := 0) (b2 := 0) (IH j1 k d) (fun e => CP_lp (fun e => IH j1 e d) 401 e) (by omega)
    by_cases c0 : j = 0
    · rw [if_pos c0]; exact LP 22 22 1 (by decide) (by decide)
    rw [if_neg c0]
    by_cases c1 : j = 1
    · rw [if_pos c1]; exact LP 21 21 2 (by decide) (by decide)
    rw [if_neg c1]
    have dp : ∀ j1 d1 c i, (c = 20 ∨ c = 21 ∨ c = 22 ∨ c = 23 ∨ c = 24 ∨ c = 44 ∨ c = 15 ∨ (31 ≤ c ∧ c ≤ 39)) → CP k 0 0 (sq (Px g n j1 (k + 1) d1) (em (c, i))) := fun j1 d1 c i hc => CP_sq (a1 := 2) (b1 := 0) (a2 := 0) (b2 := 2) (CP_dn (IH j1 (k + 1) d1) (by omega) (by omega)) (fun e => CP_op) (by omega)
    have bk : ∀ j1 d1 q, CP k 0 0 (sq (Px g n j1 (k + 1) d1) (tk1 g q)) := fun j1 d1 q => CP_sq (a1 := 2) (b1 := 0) (a2 := 2) (b2 := 0) (CP_dn (IH j1 (k + 1) d1) (by omega) (by omega)) (fun e => CP_tk) (by omega)
    by_cases c2 : j = 2
    · rw [if_pos c2]
      refine CP_if (fun _ => CP_if (fun _ => CP_ft) (fun _ => dp 2 (d + 1) 20 k (by decide))) (fun _ => ?_)
      refine CP_if (fun _ => CP_if (fun _ => CP_ft) (fun _ => bk 0 (d + 1) 28)) (fun _ => ?_)
      exact CP_if (fun _ => CP_dn CP_nm (by omega) (by omega)) (fun _ => CP_sq (a1 := 0) (b1 := 0) (a2 := 0) (b2 := 0) (IH 4 k d) (fun e => IH 3 e d) (by omega))
    rw [if_neg c2]
    by_cases c3 : j = 3
    · rw [if_pos c3]
      exact CP_if (fun h => dp 4 d (g k) k (by omega)) (fun _ => CP_ft)
    rw [if_neg c3]
    by_cases c4 : j = 4
    · rw [if_pos c4]; exact LP 31 32 5 (by decide) (by decide)
    rw [if_neg c4]
    by_cases c5 : j = 5
    · rw [if_pos c5]; exact LP 33 34 6 (by decide) (by decide)
    rw [if_neg c5]
    refine CP_if (fun _ => CP_em (by rw [if_pos (by decide)]; omega)) (fun _ => ?_)
    refine CP_if (fun _ => CP_dn (k := k) (j := k + 1) CP_op (by omega) (by omega)) (fun _ => ?_)
    refine CP_if (fun h => CP_dn (k := k) (j := k + 1) CP_nm (by omega) (by omega)) (fun _ => ?_)
    refine CP_if (fun h => CP_dn (k := k) (j := k + 1) CP_nm (by omega) (by omega)) (fun _ => ?_)
    refine CP_if (fun _ => CP_if (fun _ => CP_ft) (fun _ => dp 6 (d + 1) 44 k (by decide))) (fun _ => ?_)
    refine CP_if (fun _ => CP_if (fun _ => CP_ft) (fun _ => bk 4 (d + 1) 26)) (fun _ => ?_)
    refine CP_if (fun h => CP_if (fun _ => CP_ft) (fun _ => ?_)) (fun _ => CP_ft)
    refine CP_sq (a1 := 4) (b1 := 0) (a2 := 0) (b2 := 0) (CP_dn (k := k) (j := k + 1) CP_tk (by omega) (by omega)) (fun e => ?_) (by omega)
    refine CP_sq (a1 := 0) (b1 := 0) (a2 := 0) (b2 := 0) (IH 4 e (d + 1)) (fun e => ?_) (by omega)
    refine CP_sq (a1 := 2) (b1 := 0) (a2 := 0) (b2 := 0) CP_tk (fun e => ?_) (by omega)
    refine CP_sq (a1 := 0) (b1 := 0) (a2 := 0) (b2 := 0) (IH 4 e (d + 1)) (fun e => ?_) (by omega)
    exact CP_sq (a1 := 2) (b1 := 0) (a2 := 0) (b2 := 2) CP_tk (fun e => CP_op) (by omega)
theorem CP_P {g : Nat → Nat} {n j k d : Nat} : CP k 0 0 (Px g n j k d) := by
  have := CP_Px (g := g) n j k d
  by_cases c : j = 3
  · rw [if_pos c] at this; exact this
  · rw [if_neg c] at this; exact this
theorem CP_t0 {g : Nat → Nat} {q k : Nat} : CP k 0 0 (tk1 g q k) := by
  intro es e he
  have := CP_tk es e he
  omega
theorem CP_s0 {k : Nat} {x : Option (Option (List (Nat × Nat)) × Nat)} {f : Nat → Option (Option (List (Nat × Nat)) × Nat)} (h1 : CP k 0 0 x) (h2 : ∀ e, CP e 0 0 (f e)) : CP k 0 0 (sq x f) := CP_sq (a1 := 0) (b1 := 0) (a2 := 0) (b2 := 0) h1 h2 (Nat.le_refl _)
theorem CP_e0 {k c i : Nat} (h : 45 ≤ c) : CP k 0 0 (em (c, i) k) := CP_em (by rw [if_neg (by omega)]; omega)
theorem CP_szL {g : Nat → Nat} : ∀ m s k, CP k 0 0 (szL g m s k)
  | 0, _, _ => by intro es e he; cases he
  | m + 1, s, k => by
    rw [szL]
    exact CP_if (fun _ => CP_s0 (CP_dn (k := k) (j := k + 1) CP_nb (by omega) (by omega)) (fun e => CP_szL m (s + 1) e)) (fun _ => CP_nil)
theorem CP_mbL {g : Nat → Nat} : ∀ m k, CP k 0 0 (mbL g m k)
  | 0, _ => by intro es e he; cases he
  | m + 1, k => by
    rw [mbL]
    exact CP_if (fun _ => CP_s0 (CP_dn (k := k) (j := k + 1) CP_nm (by omega) (by omega)) (fun e => CP_mbL m e)) (fun _ => CP_nil)
theorem CP_ln1 {g : Nat → Nat} {k : Nat} : CP k 0 0 (ln1 g k) := by
  unfold ln1
  refine CP_if (fun _ => ?_) (fun _ => CP_if (fun _ => ?_) (fun _ => CP_if (fun _ => ?_) (fun _ => CP_if (fun _ => ?_) (fun _ => CP_ft))))
  · exact CP_s0 CP_t0 (fun k => CP_s0 CP_nm (fun k => CP_s0 CP_t0 (fun k => CP_s0 CP_nb (fun k => CP_s0 CP_t0 (fun k => CP_s0 CP_nb (fun k => CP_szL 401 2 k))))))
  · exact CP_s0 CP_t0 (fun k => CP_s0 CP_nm (fun k => CP_s0 CP_t0 (fun k => CP_s0 CP_nb (fun k => CP_s0 CP_t0 (fun k => CP_s0 CP_nb (fun k => CP_s0 CP_t0 (fun k => CP_nb)))))))
  · refine CP_s0 (CP_if (fun _ => CP_em (by rw [if_neg (by decide)]; omega)) (fun _ => CP_ft)) (fun k => CP_s0 CP_nm (fun k => CP_s0 CP_t0 (fun k => CP_s0 CP_nm (fun k => CP_if (fun _ => ?_) (fun _ => CP_e0 (by decide))))))
    exact CP_s0 (CP_dn (k := k) (j := k + 1) CP_P (by omega) (by omega)) (fun e => CP_e0 (by decide))
  · refine CP_s0 CP_t0 (fun k => CP_s0 CP_nm (fun k => CP_s0 CP_t0 (fun k => CP_s0 CP_nm (fun k => CP_s0 (CP_mbL 401 k) (fun k => CP_if (fun _ => ?_) (fun _ => CP_s0 CP_t0 (fun k => CP_s0 CP_nm (fun k => CP_s0 CP_t0 (fun k => CP_s0 CP_P (fun k => CP_e0 (by decide)))))))))))
    intro es e he
    cases he
    show 2 * 0 + 2 * k + 0 ≤ 2 * (k + 1) + 0
    omega
theorem CP_txL {g : Nat → Nat} : ∀ m k, CP k 0 0 (txL g m k)
  | 0, _ => by intro es e he; cases he
  | m + 1, k => by
    rw [txL]
    exact CP_if (fun _ => CP_nil) (fun _ => CP_s0 CP_ln1 (fun k => CP_s0 CP_t0 (fun k => CP_txL m k)))

