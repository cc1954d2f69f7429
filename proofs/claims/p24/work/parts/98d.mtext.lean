/-! ## Pure: the reference's lines of goes and pacts; its text -/
/-- how many events of a kind -/
def nc (c : Nat) : List (Nat × Nat) → Nat
  | [] => 0
  | x :: r => (if x.1 = c then 1 else 0) + nc c r
theorem ES_nc {g : Nat → Nat} : ∀ (es : List (Nat × Nat)) (k e : Nat), ES g k es e → nc 54 es + nc 53 es + k ≤ e
  | [], k, e, h => by show 0 + 0 + k ≤ e; have : k ≤ e := h; omega
  | x :: r, k, e, h => by
    rw [ES] at h
    rw [nc, nc]
    by_cases c : tkC x.1 = true
    · rw [if_pos c] at h
      have := ES_nc r _ e h.2.2
      have h1 := h.1
      by_cases c1 : x.1 = 54
      · rw [if_pos c1, if_neg (show ¬ x.1 = 53 by omega)]; omega
      · rw [if_neg c1]
        by_cases c2 : x.1 = 53
        · rw [if_pos c2]; omega
        · rw [if_neg c2]; omega
    · rw [if_neg c] at h
      have := ES_nc r _ e h
      rw [if_neg (show ¬ x.1 = 54 from fun z => c (by rw [z]; decide)), if_neg (show ¬ x.1 = 53 from fun z => c (by rw [z]; decide))]
      omega
theorem nc_0 {c : Nat} (hc : 45 ≤ c) : ∀ es : List (Nat × Nat), (∀ y ∈ es, y.1 < 45) → nc c es = 0
  | [], _ => rfl
  | x :: r, h => by
    have := h x List.mem_cons_self
    rw [nc, if_neg (by omega), nc_0 hc r (fun y hy => h y (List.mem_cons_of_mem _ hy))]
theorem ms_c {vs : Nat → Nat} {m t c i : Nat} {M : gMem} (ht : m + 7 ≤ t) : mI (mst1 vs m t c i M) t 15 = (if c = 54 then nI (cn M t 15 + 1) else mI M t 15) ∧ mI (mst1 vs m t c i M) t 16 = (if c = 53 then nI (cn M t 16 + 1) else mI M t 16) := by
  have pu : ∀ X v j, j ≠ 22 → mI (puM t v X) t j = mI X t j := fun X v j h => by
    unfold puM
    rw [wI_o (.inr h), wI_o (.inl (by omega))]
  have en : ∀ w j, j ≠ 22 → j ≠ 24 → mI (nmE m t c w i M) t j = mI M t j := fun w j h1 h2 => by
    unfold nmE roM
    rw [wI_o (.inl (by omega)), pu _ _ _ h1, wI_o (.inr h2), wI_o (.inl (by omega)), pu _ _ _ h1]
  have ro : ∀ v j, mI (roM m i v M) t j = mI M t j := fun v j => wI_o (.inl (by omega))
  unfold mst1
  by_cases h : c = 16 ∨ c = 17 ∨ c = 4 ∨ c = 19
  · rw [if_pos h, en _ _ (by decide) (by decide), en _ _ (by decide) (by decide), if_neg (by omega), if_neg (by omega)]; exact ⟨rfl, rfl⟩
  rw [if_neg h]; clear h
  by_cases h : c = 2 ∨ c = 18
  · rw [if_pos h, en _ _ (by decide) (by decide), en _ _ (by decide) (by decide), if_neg (by omega), if_neg (by omega)]; exact ⟨rfl, rfl⟩
  rw [if_neg h]; clear h
  by_cases h : c = 41
  · rw [if_pos h, pu _ _ _ (by decide), pu _ _ _ (by decide), pu _ _ _ (by decide), pu _ _ _ (by decide), if_neg (by omega), if_neg (by omega)]; exact ⟨rfl, rfl⟩
  rw [if_neg h]; clear h
  by_cases h : c < 45
  · rw [if_pos h, pu _ _ _ (by decide), pu _ _ _ (by decide), if_neg (by omega), if_neg (by omega)]; exact ⟨rfl, rfl⟩
  rw [if_neg h]; clear h
  by_cases h : c = 53
  · rw [if_pos h, if_neg (show ¬ c = 54 by omega), if_pos h, wI_o (.inr (by decide)), wI_o (.inl (by omega)), ro, wI_e]; exact ⟨rfl, rfl⟩
  rw [if_neg h]
  by_cases h4 : c = 54
  · rw [if_pos h4, if_pos h4, if_neg h, wI_o (.inl (by omega)), wI_e, wI_o (.inl (by omega)), wI_o (.inr (by decide)), ro]; exact ⟨rfl, rfl⟩
  rw [if_neg h4, if_neg h4, if_neg h]; clear h h4
  by_cases h : c = 64 ∨ c = 66
  · rw [if_pos h, wI_o (.inl (by omega)), wI_o (.inl (by omega))]; exact ⟨rfl, rfl⟩
  rw [if_neg h]; clear h
  by_cases h : c = 65
  · rw [if_pos h, wI_o (.inl (by omega)), wI_o (.inl (by omega))]; exact ⟨rfl, rfl⟩
  rw [if_neg h]; clear h
  by_cases h : 1000 ≤ c
  · rw [if_pos h, ro, ro]; exact ⟨rfl, rfl⟩
  rw [if_neg h]; clear h
  by_cases h : 50 ≤ c
  · rw [if_pos h, ro, ro]; exact ⟨rfl, rfl⟩
  rw [if_neg h]; exact ⟨rfl, rfl⟩
theorem mr_c {vs : Nat → Nat} {m t : Nat} (ht : m + 7 ≤ t) : ∀ (es : List (Nat × Nat)) (M : gMem) (a b : Nat), mI M t 15 = nI a → mI M t 16 = nI b → a + nc 54 es < 2 ^ 30 → b + nc 53 es < 2 ^ 30 → mI (mrn vs m t es M) t 15 = nI (a + nc 54 es) ∧ mI (mrn vs m t es M) t 16 = nI (b + nc 53 es)
  | [], M, a, b, h1, h2, _, _ => ⟨h1, h2⟩
  | x :: r, M, a, b, h1, h2, h3, h4 => by
    rw [nc] at h3 h4
    rw [nc, nc, mrn]
    obtain ⟨c1, c2⟩ := ms_c (vs := vs) (c := x.1) (i := x.2) (M := M) ht
    rw [cn_e h1 (by omega), h1] at c1
    rw [cn_e h2 (by omega), h2] at c2
    have d1 : mI (mst1 vs m t x.1 x.2 M) t 15 = nI (a + if x.1 = 54 then 1 else 0) := by
      rw [c1]
      by_cases z : x.1 = 54
      · rw [if_pos z, if_pos z]
      · rw [if_neg z, if_neg z]; rfl
    have d2 : mI (mst1 vs m t x.1 x.2 M) t 16 = nI (b + if x.1 = 53 then 1 else 0) := by
      rw [c2]
      by_cases z : x.1 = 53
      · rw [if_pos z, if_pos z]
      · rw [if_neg z, if_neg z]; rfl
    have := mr_c (vs := vs) ht r _ _ _ d1 d2 (by omega) (by omega)
    rw [Nat.add_assoc, Nat.add_assoc] at this
    exact this
theorem imin_n {a b : Nat} (ha : a < 2 ^ 30) (hb : b < 2 ^ 30) : imin (nI a) (nI b) = nI (min a b) := by
  unfold imin
  by_cases c : b < a
  · rw [if_pos (nI_lt c (by omega)), Nat.min_eq_right (by omega)]
  · rw [if_neg (fun z => c ((nI_ltI (by omega) (by omega)).mp z)), Nat.min_eq_left (by omega)]
/-- a memory that differs in told's counters and rows, not in code and opens -/
theorem Q_w {m t e d a j : Nat} {v : Int32} {M0 M : gMem} (ht : m + 7 ≤ t) (Q : mQk m t d M0 M e) (h : (a = t ∧ j ≠ 22 ∧ j ≠ 24) ∨ (t < a ∧ a < t + 17)) : mQk m t d M0 (wI M a j v) e := by
  obtain ⟨C, h9, h10, ⟨L, l1, l2⟩, ⟨n, n1, n2⟩⟩ := Q
  refine ⟨MI_w C (.inr (.inr (by omega))) ht, ?_, ?_, ⟨L, l1, ?_⟩, ⟨n, n1, ?_⟩⟩
  · rw [wI_o (.inl (by omega))]; exact h9
  · rw [wI_o (.inl (by omega))]; exact h10
  · rw [wI_o (by omega)]; exact l2
  · rw [wI_o (by omega)]; exact n2
theorem ML_si {vs : Nat → Nat} {K m t : Nat} {M0 M M1 : gMem} {x : Option (Option (List (Nat × Nat)) × Nat)} {y : Option (Int32 × gMem)} (ht : m + 7 ≤ t) (hs : si2 m M1 M) (h : MLl vs K m t M0 M1 x y) : MLl vs K m t M0 M x y := by
  match x, h with
  | none, _ => trivial
  | some (none, e), h => exact h
  | some (some es, e), ⟨M2, h1, h2, h3, h4⟩ => exact ⟨M2, h1, h2, h3, si2_tr h4 (si2_rn ht es hs)⟩
/-! pacts -/
theorem ck_oI {α β : Type} {p : Prop} [Decidable p] {x : Option β} : (ck p (oI x) : Option (α ⊕ β)) = oI (ck p x) := by
  by_cases c : p
  · rw [ck_t c, ck_t c]
  · unfold ck; rw [if_neg c, if_neg c]; rfl
theorem bd_oI {α β : Type} {z : Option (Int32 × gMem)} {A B : Int32 → gMem → Option β} : (bd z fun r M => if r = 0 then (oI (A r M) : Option (α ⊕ β)) else oI (B r M)) = oI (bd z fun r M => if r = 0 then A r M else B r M) := by
  match z with
  | none => rfl
  | some (r, M) =>
    rw [bd_S, bd_S]
    by_cases c : r = 0
    · rw [if_pos c, if_pos c]
    · rw [if_neg c, if_neg c]
theorem dr_oI {α β : Type} {z : Option Nat} {A : Nat → Option β} : (dr z fun a => (oI (A a) : Option (α ⊕ β))) = oI (dr z A) := by
  match z with
  | none => rfl
  | some a => rfl
theorem lw_oI {α β : Type} {M : gMem} {A : gMem → Option β} : (lw M fun a => (oI (A a) : Option (α ⊕ β))) = oI (lw M A) := rfl
