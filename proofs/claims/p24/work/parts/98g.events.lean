/-! ## Pure: rows of events: roles, names, what may follow what -/
def okC (c : Nat) : Prop := c < 45 ∨ (51 ≤ c ∧ c ≤ 66 ∧ c ≠ 56) ∨ 1000 ≤ c
def rl (c : Nat) : Nat := if c = 16 ∨ c = 17 ∨ c = 4 ∨ c = 19 then 14 else if c = 2 ∨ c = 18 then 15 else if c < 45 then 0 else if 1000 ≤ c then 6 else if 51 ≤ c ∧ c ≤ 63 then c - 50 else 0
def roE : List (Nat × Nat) → Nat → Nat
  | [], _ => 0
  | x :: r, i => if tkC x.1 = true ∧ x.2 = i then rl x.1 else roE r i
/-- the tokens of a role -/
def tks (w : Nat) : List (Nat × Nat) → List Nat
  | [] => []
  | x :: r => if tkC x.1 = true ∧ rl x.1 = w then x.2 :: tks w r else tks w r
def lkL (vs : Nat → Nat) (v : Nat) : List Nat → Nat → Option Nat
  | [], _ => none
  | i :: r, c => if vs i = v then some c else lkL vs v r (c + 1)
theorem roE_lo {g : Nat → Nat} : ∀ (es : List (Nat × Nat)) (k e i : Nat), ES g k es e → i < k → roE es i = 0
  | [], _, _, _, _, _ => rfl
  | x :: r, k, e, i, h, hi => by
    rw [ES] at h
    rw [roE]
    by_cases c : tkC x.1 = true
    · rw [if_pos c] at h
      rw [if_neg (by omega)]
      exact roE_lo r _ e i h.2.2 (by omega)
    · rw [if_neg c] at h
      rw [if_neg (fun z => c z.1)]
      exact roE_lo r k e i h hi
theorem roE_hi {g : Nat → Nat} : ∀ (es : List (Nat × Nat)) (k e i : Nat), ES g k es e → e ≤ i → roE es i = 0
  | [], _, _, _, _, _ => rfl
  | x :: r, k, e, i, h, hi => by
    rw [ES] at h
    rw [roE]
    by_cases c : tkC x.1 = true
    · rw [if_pos c] at h
      have := ES_le r _ e h.2.2
      rw [if_neg (by omega)]
      exact roE_hi r _ e i h.2.2 hi
    · rw [if_neg c] at h
      rw [if_neg (fun z => c z.1)]
      exact roE_hi r k e i h hi
theorem rl_le {c : Nat} : rl c ≤ 15 := by
  unfold rl
  split
  · omega
  split
  · omega
  split
  · omega
  split
  · omega
  split <;> omega
theorem roE_le : ∀ (es : List (Nat × Nat)) (i : Nat), roE es i ≤ 15
  | [], _ => Nat.zero_le _
  | x :: r, i => by
    rw [roE]
    by_cases c : tkC x.1 = true ∧ x.2 = i
    · rw [if_pos c]; exact rl_le
    · rw [if_neg c]; exact roE_le r i
theorem rl_kd {c : Nat} (hx : okC c) (h1 : 1 ≤ rl c) (h4 : rl c ≠ 4) : kdC c = if 5 ≤ rl c ∧ rl c ≤ 9 then 41 else 40 := by
  unfold okC at hx
  unfold rl at h1 h4 ⊢
  by_cases d : c = 16 ∨ c = 17 ∨ c = 4 ∨ c = 19
  · rw [if_pos d, if_neg (by omega)]
    unfold kdC
    rw [if_neg (by omega), if_neg (by omega)]
  rw [if_neg d] at h1 h4 ⊢
  by_cases d2 : c = 2 ∨ c = 18
  · rw [if_pos d2, if_neg (by omega)]
    unfold kdC
    rw [if_neg (by omega), if_neg (by omega)]
  rw [if_neg d2] at h1 h4 ⊢
  by_cases d3 : c < 45
  · rw [if_pos d3] at h1; omega
  rw [if_neg d3] at h1 h4 ⊢
  by_cases d4 : 1000 ≤ c
  · rw [if_pos d4, if_pos (show 5 ≤ 6 ∧ 6 ≤ 9 by decide)]
    unfold kdC
    rw [if_neg (by omega), if_pos (by omega)]
  rw [if_neg d4] at h1 h4 ⊢
  by_cases d5 : 51 ≤ c ∧ c ≤ 63
  · rw [if_pos d5] at h1 h4 ⊢
    unfold kdC
    rw [if_neg (by omega)]
    by_cases d6 : 5 ≤ c - 50 ∧ c - 50 ≤ 9
    · rw [if_pos d6, if_pos (by omega)]
    · rw [if_neg d6, if_neg (by omega)]
  · rw [if_neg d5] at h1; omega
theorem roE_kd {g : Nat → Nat} : ∀ (es : List (Nat × Nat)) (k e i : Nat), ES g k es e → (∀ y ∈ es, okC y.1) → 1 ≤ roE es i → roE es i ≠ 4 → g i = if 5 ≤ roE es i ∧ roE es i ≤ 9 then 41 else 40
  | [], _, _, _, _, _, h, _ => absurd h (by show ¬ 1 ≤ 0; omega)
  | x :: r, k, e, i, h, ho, h1, h4 => by
    rw [ES] at h
    have hx := ho x List.mem_cons_self
    have ho' := fun y hy => ho y (List.mem_cons_of_mem _ hy)
    by_cases c : tkC x.1 = true
    · rw [if_pos c] at h
      by_cases c2 : x.2 = i
      · have e : roE (x :: r) i = rl x.1 := if_pos ⟨c, c2⟩
        rw [e] at h1 h4 ⊢
        rw [← c2, h.2.1]
        exact rl_kd hx h1 h4
      · have e : roE (x :: r) i = roE r i := if_neg (fun z => c2 z.2)
        rw [e] at h1 h4 ⊢
        exact roE_kd r _ _ i h.2.2 ho' h1 h4
    · rw [if_neg c] at h
      have e : roE (x :: r) i = roE r i := if_neg (fun z => c z.1)
      rw [e] at h1 h4 ⊢
      exact roE_kd r k _ i h ho' h1 h4
theorem tdS_skip {ro vs : Nat → Nat} {w v : Nat} : ∀ (a d c k : Nat), (∀ j, k ≤ j → j < k + a → ro j ≠ w) → tdS ro vs w v (a + d) c k = tdS ro vs w v d c (k + a)
  | 0, d, c, k, _ => by rw [Nat.zero_add, Nat.add_zero]
  | a + 1, d, c, k, h => by
    rw [show a + 1 + d = (a + d) + 1 by omega, tdS, if_neg (h k (Nat.le_refl _) (by omega)), tdS_skip a d c (k + 1) (fun j j1 j2 => h j (by omega) (by omega)), show k + 1 + a = k + (a + 1) by omega]
theorem tdS_0 {ro vs : Nat → Nat} {w v : Nat} {a c k : Nat} (h : ∀ j, k ≤ j → j < k + a → ro j ≠ w) : tdS ro vs w v a c k = none := by
  have := tdS_skip (ro := ro) (vs := vs) (w := w) (v := v) a 0 c k h
  rw [Nat.add_zero] at this
  rw [this]
  rfl
/-- the reference's search is a search in the row of names -/
theorem tds_es {g vs ro : Nat → Nat} {w v : Nat} (hw : 1 ≤ w) : ∀ (pre : List (Nat × Nat)) (k c x : Nat), ES g k pre x → (∀ i, k ≤ i → i < x → ro i = roE pre i) → tdS ro vs w v (x - k) c k = lkL vs v (tks w pre) c
  | [], k, c, x, h, hr => by
    refine tdS_0 (fun j j1 j2 => ?_)
    rw [hr j j1 (by omega)]
    show ¬ 0 = w
    omega
  | y :: r, k, c, x, h, hr => by
    rw [ES] at h
    rw [tks]
    by_cases t : tkC y.1 = true
    · rw [if_pos t] at h
      obtain ⟨h1, h2, h3⟩ := h
      have h4 := ES_le r _ x h3
      have sk := tdS_skip (ro := ro) (vs := vs) (w := w) (v := v) (y.2 - k) (x - y.2) c k (fun j j1 j2 => by
        rw [hr j j1 (by omega), roE, if_neg (by omega), roE_lo r _ x j h3 (by omega)]
        omega)
      rw [show y.2 - k + (x - y.2) = x - k by omega, show k + (y.2 - k) = y.2 by omega] at sk
      rw [sk, show x - y.2 = (x - (y.2 + 1)) + 1 by omega, tdS, hr y.2 h1 (by omega), show roE (y :: r) y.2 = rl y.1 from if_pos ⟨t, rfl⟩]
      have rest : ∀ c, tdS ro vs w v (x - (y.2 + 1)) c (y.2 + 1) = lkL vs v (tks w r) c := fun c => tds_es hw r (y.2 + 1) c x h3 (fun i i1 i2 => by
        rw [hr i (by omega) i2, roE, if_neg (by omega)])
      by_cases e : rl y.1 = w
      · rw [if_pos e, if_pos (show tkC y.1 = true ∧ rl y.1 = w from ⟨t, e⟩), lkL, rest]
      · rw [if_neg e, if_neg (show ¬ (tkC y.1 = true ∧ rl y.1 = w) from fun z => e z.2), rest]
    · rw [if_neg t] at h
      rw [if_neg (fun z => t z.1)]
      exact tds_es hw r k c x h (fun i i1 i2 => by rw [hr i i1 i2, roE, if_neg (fun z => t z.1)])
theorem tks_app {w : Nat} : ∀ (a b : List (Nat × Nat)), tks w (a ++ b) = tks w a ++ tks w b
  | [], b => rfl
  | x :: r, b => by
    rw [List.cons_append, tks, tks, tks_app r b]
    split <;> rfl
theorem roE_app {g : Nat → Nat} : ∀ (a b : List (Nat × Nat)) (k x e i : Nat), ES g k a x → ES g x b e → roE (a ++ b) i = if i < x then roE a i else roE b i
  | [], b, k, x, e, i, h1, h2 => by
    show roE b i = if i < x then 0 else roE b i
    by_cases c : i < x
    · rw [if_pos c, roE_lo b x e i h2 c]
    · rw [if_neg c]
  | y :: r, b, k, x, e, i, h1, h2 => by
    show (if tkC y.1 = true ∧ y.2 = i then rl y.1 else roE (r ++ b) i) = if i < x then (if tkC y.1 = true ∧ y.2 = i then rl y.1 else roE r i) else roE b i
    rw [ES] at h1
    by_cases t : tkC y.1 = true
    · rw [if_pos t] at h1
      have := ES_le r _ x h1.2.2
      rw [roE_app r b _ x e i h1.2.2 h2]
      by_cases c : tkC y.1 = true ∧ y.2 = i
      · rw [if_pos c, if_pos c, if_pos (by omega)]
      · rw [if_neg c, if_neg c]
    · rw [if_neg t] at h1
      have n : ¬ (tkC y.1 = true ∧ y.2 = i) := fun z => t z.1
      rw [if_neg n, if_neg n, roE_app r b k x e i h1 h2]
/-- what the first pass leaves in the row of roles -/
theorem ms_r {vs : Nat → Nat} {m t c i j : Nat} {M : gMem} (ht : m + 7 ≤ t) (hc : okC c) : mI (mst1 vs m t c i M) (m + 5) j = if tkC c = true ∧ j = i ∧ c ≠ 41 then nI (rl c) else mI M (m + 5) j := by
  have pu : ∀ X v, mI (puM t v X) (m + 5) j = mI X (m + 5) j := fun X v => by
    unfold puM
    rw [wI_o (.inl (by omega)), wI_o (.inl (by omega))]
  have ro : ∀ X (w : Nat), mI (roM m i (nI w) X) (m + 5) j = if j = i then nI w else mI X (m + 5) j := fun X w => by
    unfold roM
    by_cases e : j = i
    · rw [if_pos e, e, wI_e]
    · rw [if_neg e, wI_o (.inr e)]
  have tw : ∀ X a k v, t ≤ a → mI (wI X a k v) (m + 5) j = mI X (m + 5) j := fun X a k v h => wI_o (.inl (by omega))
  have en : ∀ w : Nat, mI (nmE m t c (nI w) i M) (m + 5) j = if j = i then nI w else mI M (m + 5) j := fun w => by
    unfold nmE
    rw [ro, pu, tw _ _ _ _ (Nat.le_refl _), tw _ _ _ _ (by omega), pu]
  have fin : ∀ (w : Nat) (z : Int32), tkC c = true → c ≠ 41 → rl c = w → z = (if j = i then nI w else mI M (m + 5) j) → z = if tkC c = true ∧ j = i ∧ c ≠ 41 then nI (rl c) else mI M (m + 5) j := fun w z h1 h2 h3 h4 => by
    rw [h4, h3]
    by_cases e : j = i
    · rw [if_pos e, if_pos ⟨h1, e, h2⟩]
    · rw [if_neg e, if_neg (fun z => e z.2.1)]
  unfold okC at hc
  unfold mst1
  by_cases h : c = 16 ∨ c = 17 ∨ c = 4 ∨ c = 19
  · rw [if_pos h]
    exact fin 14 _ (by rcases h with h | h | h | h <;> subst h <;> decide) (by omega) (if_pos h) (en 14)
  rw [if_neg h]
  by_cases h2 : c = 2 ∨ c = 18
  · rw [if_pos h2]
    exact fin 15 _ (by rcases h2 with h | h <;> subst h <;> decide) (by omega) (by unfold rl; rw [if_neg h, if_pos h2]) (en 15)
  rw [if_neg h2]
  by_cases h3 : c = 41
  · rw [if_pos h3, pu, pu, if_neg (fun z => z.2.2 h3)]
  rw [if_neg h3]
  by_cases h4 : c < 45
  · have tk : tkC c ≠ true := by
      have : ∀ c, c < 45 → ¬ (c = 16 ∨ c = 17 ∨ c = 4 ∨ c = 19) → ¬ (c = 2 ∨ c = 18) → c ≠ 41 → tkC c ≠ true := by decide +kernel
      exact this c h4 h h2 h3
    rw [if_pos h4, pu, if_neg (fun z => tk z.1)]
  rw [if_neg h4]
  have rl5 : ∀ x, 51 ≤ x → x ≤ 63 → rl x = x - 50 := fun x h1 h2 => by
    unfold rl
    rw [if_neg (by omega), if_neg (by omega), if_neg (by omega), if_neg (by omega), if_pos (by omega)]
  have tk5 : ∀ x, x < 67 → 51 ≤ x → x ≤ 63 → tkC x = true := by decide +kernel
  have tk6 : ∀ x, x < 67 → 64 ≤ x → tkC x ≠ true := by decide +kernel
  by_cases h5 : c = 53
  · rw [if_pos h5, tw _ _ _ _ (Nat.le_refl _), tw _ _ _ _ (by omega)]
    exact fin 3 _ (tk5 c (by omega) (by omega) (by omega)) (by omega) (by rw [rl5 c (by omega) (by omega)]; omega) (ro _ 3)
  rw [if_neg h5]
  by_cases h6 : c = 54
  · rw [if_pos h6, tw _ _ _ _ (by omega), tw _ _ _ _ (Nat.le_refl _)]
    exact fin 4 _ (tk5 c (by omega) (by omega) (by omega)) (by omega) (by rw [rl5 c (by omega) (by omega)]; omega) (ro _ 4)
  rw [if_neg h6]
  by_cases h7 : c = 64 ∨ c = 66
  · rw [if_pos h7, tw _ _ _ _ (by omega), if_neg (fun z => tk6 c (by omega) (by omega) z.1)]
  rw [if_neg h7]
  by_cases h8 : c = 65
  · rw [if_pos h8, tw _ _ _ _ (by omega), if_neg (fun z => tk6 c (by omega) (by omega) z.1)]
  rw [if_neg h8]
  by_cases h9 : 1000 ≤ c
  · rw [if_pos h9]
    refine fin 6 _ ?_ (by omega) ?_ (ro _ 6)
    · unfold tkC
      rw [show decide (50 ≤ c) = true from decide_eq_true (by omega), show (c != 64) = true from bne_iff_ne.mpr (by omega), show (c != 65) = true from bne_iff_ne.mpr (by omega), show (c != 66) = true from bne_iff_ne.mpr (by omega)]
      simp
    · unfold rl
      rw [if_neg h, if_neg h2, if_neg h4, if_pos h9]
  rw [if_neg h9, if_pos (by omega)]
  exact fin (c - 50) _ (tk5 c (by omega) (by omega) (by omega)) (by omega) (rl5 c (by omega) (by omega)) (ro _ _)
theorem mr_r {g vs : Nat → Nat} {m t K : Nat} (ht : m + 7 ≤ t) : ∀ (es : List (Nat × Nat)) (k e : Nat) (M : gMem), ES g k es e → (∀ y ∈ es, okC y.1) → (∀ i, k ≤ i → i ≤ K → mI M (m + 5) i = 0) → (∀ i, i < k → mI (mrn vs m t es M) (m + 5) i = mI M (m + 5) i) ∧ ∀ i, k ≤ i → i ≤ K → mI (mrn vs m t es M) (m + 5) i = nI (roE es i)
  | [], k, e, M, _, _, h0 => ⟨fun _ _ => rfl, fun i h1 h2 => (h0 i h1 h2).trans rfl⟩
  | y :: r, k, e, M, h, ho, h0 => by
    rw [ES] at h
    have hy := ho y List.mem_cons_self
    have ho' := fun z hz => ho z (List.mem_cons_of_mem _ hz)
    have em := fun j => ms_r (vs := vs) (m := m) (t := t) (c := y.1) (i := y.2) (j := j) (M := M) ht hy
    by_cases t1 : tkC y.1 = true
    · rw [if_pos t1] at h
      obtain ⟨h1, h2, h3⟩ := h
      obtain ⟨a1, a2⟩ := mr_r (g := g) (vs := vs) (K := K) ht r (y.2 + 1) e (mst1 vs m t y.1 y.2 M) h3 ho' (fun i i1 i2 => by
        rw [em, if_neg (by omega)]
        exact h0 i (by omega) i2)
      have e41 : y.1 = 41 → rl y.1 = 0 := fun z => by rw [z]; rfl
      refine ⟨fun i hi => ?_, fun i i1 i2 => ?_⟩
      · rw [mrn, a1 i (by omega), em, if_neg (by omega)]
      · show mI (mrn vs m t r (mst1 vs m t y.1 y.2 M)) (m + 5) i = nI (if tkC y.1 = true ∧ y.2 = i then rl y.1 else roE r i)
        by_cases c : y.2 + 1 ≤ i
        · rw [a2 i c i2, if_neg (show ¬ (tkC y.1 = true ∧ y.2 = i) by omega)]
        · rw [a1 i (by omega), em]
          by_cases c2 : y.2 = i
          · rw [if_pos (show tkC y.1 = true ∧ y.2 = i from ⟨t1, c2⟩)]
            by_cases c3 : y.1 = 41
            · rw [if_neg (fun z => z.2.2 c3), e41 c3]
              exact h0 i i1 i2
            · rw [if_pos ⟨t1, c2.symm, c3⟩]
          · rw [if_neg (show ¬ (tkC y.1 = true ∧ i = y.2 ∧ y.1 ≠ 41) by omega), if_neg (show ¬ (tkC y.1 = true ∧ y.2 = i) by omega), roE_lo r _ e i h3 (by omega)]
            exact h0 i i1 i2
    · rw [if_neg t1] at h
      obtain ⟨a1, a2⟩ := mr_r (g := g) (vs := vs) (K := K) ht r k e (mst1 vs m t y.1 y.2 M) h ho' (fun i i1 i2 => by
        rw [em, if_neg (fun z => t1 z.1)]
        exact h0 i i1 i2)
      refine ⟨fun i hi => ?_, fun i i1 i2 => ?_⟩
      · rw [mrn, a1 i hi, em, if_neg (fun z => t1 z.1)]
      · rw [mrn, show roE (y :: r) i = roE r i from if_neg (fun z => t1 z.1), a2 i i1 i2]

