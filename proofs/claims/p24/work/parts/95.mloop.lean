/-! ## Pure: the reference's loops -/
def mQk (m t d : Nat) (M0 M : gMem) (k : Nat) : Prop := MI m t M0 M ∧ mI M m 9 = nI k ∧ mI M m 10 = nI d ∧ (∃ L, L ≤ 2 * k ∧ mI M t 22 = nI L) ∧ ∃ n, n ≤ k ∧ mI M t 24 = nI n
theorem si2_I {m a j : Nat} {A B : gMem} (h : si2 m A B) (ha : a ≠ m) : mI A a j = mI B a j := by
  rw [← (td_c (k := 0) (d := 0) (M := A) (j := j) ha).2, ← (td_c (k := 0) (d := 0) (M := B) (j := j) ha).2, h 0 0]
theorem MQ_nx {vs : Nat → Nat} {m t d k j e : Nat} {es : List (Nat × Nat)} {M0 M M1 : gMem} (ht : m + 7 ≤ t) (Q : mQk m t d M0 M k) (he : e ≤ 400) (hw : we es + 2 * k + j ≤ 2 * e) (hn : ne es + k ≤ e) (hc : ∀ y ∈ es, y.1 < 45) (C : MI m t M0 M1) (h9 : mI M1 m 9 = nI e) (h10 : mI M1 m 10 = nI d) (hs : si2 m M1 (mrn vs m t es M)) : mQk m t d M0 M1 e ∧ ∃ L, L + j ≤ 2 * e ∧ mI M1 t 22 = nI L := by
  obtain ⟨-, -, -, ⟨L, l1, l2⟩, ⟨n, n1, n2⟩⟩ := Q
  obtain ⟨a1, a2⟩ := mr_l (vs := vs) ht es L n M hc l2 n2 (by omega) (by omega)
  rw [← si2_I hs (by omega)] at a1 a2
  exact ⟨⟨C, h9, h10, ⟨_, by omega, a1⟩, ⟨_, by omega, a2⟩⟩, ⟨_, by omega, a1⟩⟩
theorem ms_op {vs : Nat → Nat} {m t c i : Nat} {M : gMem} (hc : c = 15 ∨ c = 44 ∨ (20 ≤ c ∧ c ≤ 24) ∨ (31 ≤ c ∧ c ≤ 39)) : mst1 vs m t c i M = puM t (nI (opc c)) M := by
  unfold mst1
  rw [if_neg (by omega), if_neg (by omega), if_neg (by omega), if_pos (by omega)]
theorem si2_pu {m t : Nat} {v : Int32} {A B : gMem} (ht : m + 7 ≤ t) (h : si2 m A B) : si2 m (puM t v A) (puM t v B) := fun k d => by
  rw [← td_p ht, ← td_p ht, h k d]
theorem MR_lp {g vs : Nat → Nat} {K m t d a b : Nat} {M0 : gMem} {f : Nat → Option (Option (List (Nat × Nat)) × Nat)} {BB : gMem → Option (gMem ⊕ (Int32 × gMem))} (W : MWd g K m t M0) (ha : a = 21 ∨ a = 22 ∨ (31 ≤ a ∧ a ≤ 34)) (hb : b = 21 ∨ b = 22 ∨ (31 ≤ b ∧ b ≤ 34)) (hF : ∀ e, e ≤ K → FP g K e 1 0 1 1 (f e)) (hW : ∀ e, WP e 0 0 (f e)) (hA : ∀ e, AC (f e)) (h1 : ∀ M k, mQk m t d M0 M k → k ≤ K → (g k = a ∨ g k = b) → match f (k + 1) with
    | none => True
    | some (none, e) => ∃ M1, BB M = some (.inr ((0 : Int32), M1)) ∧ MI m t M0 M1 ∧ mI M1 m 9 = nI e
    | some (some es, e) => ∃ M1, BB M = some (.inl (puM t (nI (opc (g k))) M1)) ∧ MI m t M0 M1 ∧ mI M1 m 9 = nI e ∧ mI M1 m 10 = nI d ∧ si2 m M1 (mrn vs m t es M)) (h2 : ∀ M k, mQk m t d M0 M k → k ≤ K → ¬ (g k = a ∨ g k = b) → BB M = some (.inr ((1 : Int32), M))) : ∀ q k M, mQk m t d M0 M k → k ≤ K → MRl vs m t d M0 M (lpS g a b f q k) (lp BB M)
  | 0, _, _, _, _ => trivial
  | q + 1, k, M, Q, hk => by
    have ht := W.1.2.2
    have hK := W.2.2.2.1
    rw [lpS]
    by_cases c : g k = a ∨ g k = b
    · rw [if_pos c]
      have hk1 := W.2.2.2.2 k hk (by rcases c with h | h <;> omega)
      have key := h1 M k Q hk c
      have fe := hF (k + 1) hk1
      have we1 := hW (k + 1)
      have ac1 := hA (k + 1)
      unfold sq
      match f (k + 1), key, fe, we1, ac1 with
      | none, _, _, _, _ => trivial
      | some (none, e), ⟨M1, k1, k2, k3⟩, _, _, _ => exact ⟨M1, lp_out k1, k2, k3⟩
      | some (some es, e), ⟨M1, k1, k2, k3, k4, k5⟩, fe, we1, ac1 =>
        have cb : g k = 15 ∨ g k = 44 ∨ (20 ≤ g k ∧ g k ≤ 24) ∨ (31 ≤ g k ∧ g k ≤ 39) := by rcases c with h | h <;> omega
        have w1 := we1 es e rfl
        obtain ⟨Q1, L, l1, l2⟩ := MQ_nx (vs := vs) (j := 2) ht Q (by have := fe.1; omega) (by omega) (by omega) (ac1 es e rfl) k2 k3 k4 k5
        obtain ⟨p1, p2⟩ := pu_l (v := nI (opc (g k))) l2 (by have := fe.1; omega)
        obtain ⟨-, -, -, -, ⟨n, n1, n2⟩⟩ := Q1
        have C2 : MI m t M0 (puM t (nI (opc (g k))) M1) := MI_w (MI_w k2 (.inr (.inr (by omega))) ht) (.inr (.inr (by omega))) ht
        have o9 : ∀ j, mI (puM t (nI (opc (g k))) M1) m j = mI M1 m j := fun j => by unfold puM; rw [wI_o (.inl (by omega)), wI_o (.inl (by omega))]
        have Q2 : mQk m t d M0 (puM t (nI (opc (g k))) M1) e := ⟨C2, by rw [o9]; exact k3, by rw [o9]; exact k4, ⟨_, by omega, p1⟩, ⟨n, n1, by rw [p2]; exact n2⟩⟩
        have key2 := MR_lp W ha hb hF hW hA h1 h2 q e _ Q2 fe.1
        have e1 : lp BB M = lp BB (puM t (nI (opc (g k))) M1) := lp_in k1
        rw [e1]
        have sm : si2 m (puM t (nI (opc (g k))) M1) (mst1 vs m t (g k) k (mrn vs m t es M)) := by
          rw [ms_op cb]
          exact si2_pu ht k5
        show MRl vs m t d M0 M (match (match lpS g a b f q e with
          | none => none
          | some (none, k1) => some (none, k1)
          | some (some es1, k1) => some (some ([(g k, k)] ++ es1), k1)) with
          | none => none
          | some (none, k1) => some (none, k1)
          | some (some es1, k1) => some (some (es ++ es1), k1)) _
        match lpS g a b f q e, key2 with
        | none, _ => trivial
        | some (none, e1), key2 => exact key2
        | some (some es1, e1), ⟨M2, j1, j2, j3, j4, j5⟩ =>
          refine ⟨M2, j1, j2, j3, j4, ?_⟩
          rw [mrn_app, mrn_app]
          exact si2_tr j5 (si2_rn ht es1 sm)
    · rw [if_neg c]
      exact ⟨M, lp_out (h2 M k Q hk c), Q.1, Q.2.1, Q.2.2.1, fun _ _ => rfl⟩

