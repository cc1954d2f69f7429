/-! ## Pure: the second pass of the reference against the class -/
def ceL : List (Nat × Nat) → List (Nat × Nat)
  | [] => []
  | x :: r => if x.1 < 45 then x :: ceL r else ceL r
theorem ceL_app : ∀ (a b : List (Nat × Nat)), ceL (a ++ b) = ceL a ++ ceL b
  | [], b => rfl
  | x :: r, b => by
    rw [List.cons_append, ceL, ceL, ceL_app r b]
    split <;> rfl
theorem ceL_cc : ∀ (a : List (Nat × Nat)), (ceL a).length = cc a
  | [] => rfl
  | x :: r => by
    rw [ceL, cc]
    split
    · rw [List.length_cons, ceL_cc r]; omega
    · rw [ceL_cc r]; omega
theorem nc_app {c : Nat} : ∀ (a b : List (Nat × Nat)), nc c (a ++ b) = nc c a + nc c b
  | [], b => by show nc c b = 0 + nc c b; omega
  | x :: r, b => by rw [List.cons_append, nc, nc, nc_app r b]; omega
theorem ES_up {g : Nat → Nat} : ∀ (a : List (Nat × Nat)) (k e e' : Nat), ES g k a e → e ≤ e' → ES g k a e'
  | [], k, e, e', h, he => Nat.le_trans h he
  | x :: t, k, e, e', h, he => by
    rw [ES] at h ⊢
    by_cases c : tkC x.1 = true
    · rw [if_pos c] at h ⊢
      exact ⟨h.1, h.2.1, ES_up t _ _ _ h.2.2 he⟩
    · rw [if_neg c] at h ⊢
      exact ES_up t _ _ _ h he
/-- one more: names, signs, goes -/
theorem pre_1 {pre : List (Nat × Nat)} {c i w : Nat} : tks w (pre ++ [(c, i)]) = if tkC c = true ∧ rl c = w then tks w pre ++ [i] else tks w pre := by
  rw [tks_app]
  show tks w pre ++ (if tkC c = true ∧ rl c = w then [i] else []) = _
  split
  · rfl
  · exact List.append_nil _
theorem pre_2 {pre : List (Nat × Nat)} {c i : Nat} : ceL (pre ++ [(c, i)]) = if c < 45 then ceL pre ++ [(c, i)] else ceL pre := by
  rw [ceL_app]
  show ceL pre ++ (if c < 45 then [(c, i)] else []) = _
  split
  · rfl
  · exact List.append_nil _
theorem pre_3 {pre : List (Nat × Nat)} {c i : Nat} : nc 54 (pre ++ [(c, i)]) = nc 54 pre + if c = 54 then 1 else 0 := by
  rw [nc_app]
  rfl
def RAp (Z vs : Nat → Nat) (r o m t : Nat) (pre : List (Nat × Nat)) (k : Nat) (q : Nat × Nat × Nat × Nat) (C D : gMem) : Prop := RA Z vs r o m t (tks 1 pre) (tks 2 pre) (tks 3 pre) (ceL pre) (nc 54 pre) k q C D
def OUTp (Z vs ps : Nat → Nat) (r o m t i : Nat) (pre : List (Nat × Nat)) (k : Nat) (q : Nat × Nat × Nat × Nat) (D0 C1 D : gMem) : Prop := OUT Z vs ps r o m t i (tks 1 pre) (tks 2 pre) (tks 3 pre) (ceL pre) (nc 54 pre) k q D0 C1 D
theorem OUT_e {Z vs ps : Nat → Nat} {r o m t i c k : Nat} {pre : List (Nat × Nat)} {q q' : Nat × Nat × Nat × Nat} {D0 C1 D : gMem} (hc : 45 ≤ c) (h54 : c ≠ 54) (h1 : rl c ≠ 1 ∧ rl c ≠ 2 ∧ rl c ≠ 3) (e : some q' = some q) (h : OUT Z vs ps r o m t i (tks 1 pre) (tks 2 pre) (tks 3 pre) (ceL pre) (nc 54 pre) k q' D0 C1 D) : OUTp Z vs ps r o m t i (pre ++ [(c, i)]) k q D0 C1 D := by
  cases e
  unfold OUTp
  rw [pre_1, if_neg (fun z => h1.1 z.2), pre_1, if_neg (fun z => h1.2.1 z.2), pre_1, if_neg (fun z => h1.2.2 z.2), pre_2, if_neg (by omega), pre_3, if_neg h54]
  exact h
theorem OUT_s {Z vs ps : Nat → Nat} {r o m t i c k : Nat} {pre : List (Nat × Nat)} {q q' : Nat × Nat × Nat × Nat} {D0 C1 D : gMem} (hc : c < 45) (e : some q' = some q) (h : OUT Z vs ps r o m t i (tks 1 pre) (tks 2 pre) (tks 3 pre) (ceL pre ++ [(c, i)]) (nc 54 pre) k q' D0 C1 D) : OUTp Z vs ps r o m t i (pre ++ [(c, i)]) k q D0 C1 D := by
  cases e
  have hr : rl c ≠ 1 ∧ rl c ≠ 2 ∧ rl c ≠ 3 := by
    have : ∀ c, c < 45 → rl c ≠ 1 ∧ rl c ≠ 2 ∧ rl c ≠ 3 := by decide +kernel
    exact this c hc
  unfold OUTp
  rw [pre_1, if_neg (fun z => hr.1 z.2), pre_1, if_neg (fun z => hr.2.1 z.2), pre_1, if_neg (fun z => hr.2.2 z.2), pre_2, if_pos hc, pre_3, if_neg (by omega)]
  exact h
theorem P2_tok {Z g ps vs : Nat → Nat} {K r p o : Nat} {M0 : gMem} (W : CWd Z g ps vs K r p o M0) {ro : Nat → Nat} {m t : Nat} {D0 D : gMem} (W2 : P2W g vs ro K m t D0) (DD : M2I m t D0 D) {pre : List (Nat × Nat)} {k i c h h1 : Nat} {q q1 : Nat × Nat × Nat × Nat} {C : gMem} (CC : CI r o M0 C) (R : RAp Z vs r o m t pre k q C D) (hA : aA c q = some q1) (hH : hC c h = some h1) (tk : tkC c = true) (hi : i ≤ K) (hk : k ≤ i) (hv : vs i < 2 ^ 62) (hg : g i = kdC c) (hE : c < 45 → (ceL pre).length < 400) (hr : ro i = rl c) (hL : ∀ w, 1 ≤ w → tdS ro vs w (vs i) i 0 0 = lkL vs (vs i) (tks w pre) 0) : OUTp Z vs ps r o m t i (pre ++ [(c, i)]) (i + 1) q1 D0 (stp2 Z r p o (c, i) C) D := by
  by_cases c45 : c < 45
  · have tkv : ∀ c, c < 45 → tkC c = true → c = 2 ∨ c = 4 ∨ c = 16 ∨ c = 17 ∨ c = 18 ∨ c = 19 ∨ c = 41 := by decide +kernel
    have cv := tkv c c45 tk
    have hb : q.2.2.1 ≠ 1 ∧ q.2.2.1 ≠ 2 ∧ q.2.2.2 ≠ 1 := by
      unfold aA at hA
      rw [if_pos c45] at hA
      by_cases z : q.2.2.1 = 1 ∨ q.2.2.1 = 2 ∨ q.2.2.2 = 1
      · rw [if_pos z] at hA; cases hA
      · omega
    rw [aA_c c45 hb] at hA
    by_cases c41 : c = 41
    · subst c41
      exact OUT_s (by decide) hA (S_41 W W2 DD CC R hi hk hv (hE (by decide)) hr hg hb.2.2)
    · refine OUT_s c45 hA (S_nm W W2 DD CC R hi hk hv (hE c45) ?_ hb.2.2)
      have rlv : ∀ c, c < 45 → ((c = 16 ∨ c = 17 ∨ c = 4 ∨ c = 19) → rl c = 14) ∧ ((c = 2 ∨ c = 18) → rl c = 15) := by decide +kernel
      by_cases z : c = 16 ∨ c = 17 ∨ c = 4 ∨ c = 19
      · exact .inl ⟨z, hr.trans ((rlv c c45).1 z), hL 2 (by decide)⟩
      · exact .inr ⟨by omega, hr.trans ((rlv c c45).2 (by omega)), hL 1 (by decide)⟩
  by_cases c1 : c = 51
  · subst c1
    cases hA
    have key := S_51 W W2 DD CC R hi hk hv hr (hL 1 (by decide))
    unfold OUTp
    rw [pre_1, if_pos (by decide), pre_1, if_neg (by decide), pre_1, if_neg (by decide), pre_2, if_neg (by decide), pre_3, if_neg (by decide)]
    exact key
  by_cases c2 : c = 52
  · subst c2
    have e : aA 52 q = (if q.2.1 = 0 ∨ q.2.1 = 4 then some (q.1, 1, q.2.2) else none) := rfl
    rw [e] at hA
    by_cases z : q.2.1 = 0 ∨ q.2.1 = 4
    · rw [if_pos z] at hA
      cases hA
      have key := S_52 W W2 DD CC R hi hk hv hr (hL 2 (by decide)) z
      unfold OUTp
      rw [pre_1, if_neg (by decide), pre_1, if_pos (by decide), pre_1, if_neg (by decide), pre_2, if_neg (by decide), pre_3, if_neg (by decide)]
      exact key
    · rw [if_neg z] at hA; cases hA
  by_cases c3 : c = 53
  · subst c3
    have e : aA 53 q = (if q.2.2.2 = 0 ∨ q.2.2.2 = 2 ∨ q.2.2.2 = 4 then some (q.1, q.2.1, q.2.2.1, 1) else none) := rfl
    rw [e] at hA
    by_cases z : q.2.2.2 = 0 ∨ q.2.2.2 = 2 ∨ q.2.2.2 = 4
    · rw [if_pos z] at hA
      cases hA
      have key := S_53 W W2 DD CC R hi hk hv hr (hL 3 (by decide)) z
      unfold OUTp
      rw [pre_1, if_neg (by decide), pre_1, if_neg (by decide), pre_1, if_pos (by decide), pre_2, if_neg (by decide), pre_3, if_neg (by decide)]
      exact key
    · rw [if_neg z] at hA; cases hA
  by_cases c4 : c = 54
  · subst c4
    have e : aA 54 q = (if q.2.2.1 = 0 ∨ q.2.2.1 = 4 then some (q.1, q.2.1, 1, q.2.2.2) else none) := rfl
    rw [e] at hA
    by_cases z : q.2.2.1 = 0 ∨ q.2.2.1 = 4
    · rw [if_pos z] at hA
      cases hA
      have key := S_54 W W2 DD CC R hi hk hv hr z
      unfold OUTp
      rw [pre_1, if_neg (by decide), pre_1, if_neg (by decide), pre_1, if_neg (by decide), pre_2, if_neg (by decide), pre_3, if_pos rfl]
      exact key
    · rw [if_neg z] at hA; cases hA
  by_cases c5 : c = 55
  · subst c5
    have e : aA 55 q = (if q.1 = 1 then some q else none) := rfl
    rw [e] at hA
    by_cases z : q.1 = 1
    · rw [if_pos z] at hA
      exact OUT_e (by decide) (by decide) (by decide) hA (S_55 W W2 DD CC R hi hk hv hr z)
    · rw [if_neg z] at hA; cases hA
  by_cases c7 : c = 57
  · subst c7
    have e : aA 57 q = (if q.2.1 + 56 = 57 then some (q.1, q.2.1 + 1, q.2.2) else none) := rfl
    rw [e] at hA
    by_cases z : q.2.1 + 56 = 57
    · have z1 : q.2.1 = 1 := by omega
      rw [if_pos z, z1] at hA
      exact OUT_e (by decide) (by decide) (by decide) hA (S_57 W W2 DD CC R hi hk hv hr z1)
    · rw [if_neg z] at hA; cases hA
  by_cases c8 : c = 58
  · subst c8
    have e : aA 58 q = (if q.2.1 + 56 = 58 then some (q.1, q.2.1 + 1, q.2.2) else none) := rfl
    rw [e] at hA
    by_cases z : q.2.1 + 56 = 58
    · have z1 : q.2.1 = 2 := by omega
      rw [if_pos z, z1] at hA
      exact OUT_e (by decide) (by decide) (by decide) hA (S_58 W W2 DD CC R hi hk hv hr z1)
    · rw [if_neg z] at hA; cases hA
  by_cases c9 : c = 59
  · subst c9
    have e : aA 59 q = (if q.2.1 + 56 = 59 then some (q.1, q.2.1 + 1, q.2.2) else none) := rfl
    rw [e] at hA
    by_cases z : q.2.1 + 56 = 59
    · have z1 : q.2.1 = 3 := by omega
      rw [if_pos z, z1] at hA
      exact OUT_e (by decide) (by decide) (by decide) hA (S_59 W W2 DD CC R hi hk hv hr z1)
    · rw [if_neg z] at hA; cases hA
  by_cases c10 : c = 60
  · subst c10
    have e : aA 60 q = (if q.2.2.1 + 59 = 60 then some (q.1, q.2.1, q.2.2.1 + 1, q.2.2.2) else none) := rfl
    rw [e] at hA
    by_cases z : q.2.2.1 + 59 = 60
    · have z1 : q.2.2.1 = 1 := by omega
      rw [if_pos z, z1] at hA
      exact OUT_e (by decide) (by decide) (by decide) hA (S_60 W W2 DD CC R hi hk hv hr (hL 2 (by decide)) z1)
    · rw [if_neg z] at hA; cases hA
  by_cases c11 : c = 61
  · subst c11
    have e : aA 61 q = (if q.2.2.1 + 59 = 61 then some (q.1, q.2.1, q.2.2.1 + 1, q.2.2.2) else none) := rfl
    rw [e] at hA
    by_cases z : q.2.2.1 + 59 = 61
    · have z1 : q.2.2.1 = 2 := by omega
      rw [if_pos z, z1] at hA
      exact OUT_e (by decide) (by decide) (by decide) hA (S_61 W W2 DD CC R hi hk hv hr (hL 1 (by decide)) z1)
    · rw [if_neg z] at hA; cases hA
  by_cases c12 : c = 62
  · subst c12
    have e : aA 62 q = (if q.2.2.2 = 1 ∨ q.2.2.2 = 2 then some (q.1, q.2.1, q.2.2.1, 2) else none) := rfl
    rw [e] at hA
    by_cases z : q.2.2.2 = 1 ∨ q.2.2.2 = 2
    · rw [if_pos z] at hA
      exact OUT_e (by decide) (by decide) (by decide) hA (S_62 W W2 DD CC R hi hk hv hr (hL 2 (by decide)) z)
    · rw [if_neg z] at hA; cases hA
  by_cases c13 : c = 63
  · subst c13
    have e : aA 63 q = (if q.2.2.2 = 2 then some (q.1, q.2.1, q.2.2.1, 3) else none) := rfl
    rw [e] at hA
    by_cases z : q.2.2.2 = 2
    · rw [if_pos z] at hA
      exact OUT_e (by decide) (by decide) (by decide) hA (S_63 W W2 DD CC R hi hk hv hr (hL 1 (by decide)) z)
    · rw [if_neg z] at hA; cases hA
  have ok := aA_ok hA
  unfold okC at ok
  by_cases c100 : 1000 ≤ c
  · have e : aA c q = (if 1 ≤ q.1 ∧ c = 1000 + q.1 then some (q.1 + 1, q.2) else none) := by
      unfold aA
      rw [if_neg (by omega), if_neg (by omega), if_neg (by omega), if_pos c100]
    have er : rl c = 6 := by unfold rl; rw [if_neg (by omega), if_neg (by omega), if_neg (by omega), if_pos c100]
    rw [e] at hA
    by_cases z : 1 ≤ q.1 ∧ c = 1000 + q.1
    · rw [if_pos z] at hA
      refine OUT_e (by omega) (by omega) (by rw [er]; decide) hA ?_
      rw [z.2] at er hr ⊢
      exact S_sz W W2 DD CC R hi hk hv (hr.trans er) z.1
    · rw [if_neg z] at hA; cases hA
  · have c6 : c = 64 ∨ c = 65 ∨ c = 66 := by omega
    rcases c6 with h | h | h <;> subst h <;> exact absurd tk (by decide)
