/-! ## Pure: the reference's loops -/
def mQk (m t d : Nat) (M0 M : gMem) (k : Nat) : Prop := MI m t M0 M ∧ mI M m 9 = nI k ∧ mI M m 10 = nI d ∧ (∃ L, L ≤ 2 * k ∧ mI M t 22 = nI L) ∧ ∃ n, n ≤ k ∧ mI M t 24 = nI n
theorem si2_I {m a j : Nat} {A B : gMem} (h : si2 m A B) (ha : a ≠ m) : mI A a j = mI B a j := sorry

theorem MQ_nx {vs : Nat → Nat} {m t d k j e : Nat} {es : List (Nat × Nat)} {M0 M M1 : gMem} (ht : m + 7 ≤ t) (Q : mQk m t d M0 M k) (he : e ≤ 400) (hw : we es + 2 * k + j ≤ 2 * e) (hn : ne es + k ≤ e) (hc : ∀ y ∈ es, y.1 < 45) (C : MI m t M0 M1) (h9 : mI M1 m 9 = nI e) (h10 : mI M1 m 10 = nI d) (hs : si2 m M1 (mrn vs m t es M)) : mQk m t d M0 M1 e ∧ ∃ L, L + j ≤ 2 * e ∧ mI M1 t 22 = nI L := sorry

theorem ms_op {vs : Nat → Nat} {m t c i : Nat} {M : gMem} (hc : c = 15 ∨ c = 44 ∨ (20 ≤ c ∧ c ≤ 24) ∨ (31 ≤ c ∧ c ≤ 39)) : mst1 vs m t c i M = puM t (nI (opc c)) M := sorry

theorem si2_pu {m t : Nat} {v : Int32} {A B : gMem} (ht : m + 7 ≤ t) (h : si2 m A B) : si2 m (puM t v A) (puM t v B) := sorry

theorem MR_lp {g vs : Nat → Nat} {K m t d a b : Nat} {M0 : gMem} {f : Nat → Option (Option (List (Nat × Nat)) × Nat)} {BB : gMem → Option (gMem ⊕ (Int32 × gMem))} (W : MWd g K m t M0) (ha : a = 21 ∨ a = 22 ∨ (31 ≤ a ∧ a ≤ 34)) (hb : b = 21 ∨ b = 22 ∨ (31 ≤ b ∧ b ≤ 34)) (hF : ∀ e, e ≤ K → FP g K e 1 0 1 1 (f e)) (hW : ∀ e, WP e 0 0 (f e)) (hA : ∀ e, AC (f e)) (h1 : ∀ M k, mQk m t d M0 M k → k ≤ K → (g k = a ∨ g k = b) → match f (k + 1) with
    | none => True
    | some (none, e) => ∃ M1, BB M = some (.inr ((0 : Int32), M1)) ∧ MI m t M0 M1 ∧ mI M1 m 9 = nI e
    | some (some es, e) => ∃ M1, BB M = some (.inl (puM t (nI (opc (g k))) M1)) ∧ MI m t M0 M1 ∧ mI M1 m 9 = nI e ∧ mI M1 m 10 = nI d ∧ si2 m M1 (mrn vs m t es M)) (h2 : ∀ M k, mQk m t d M0 M k → k ≤ K → ¬ (g k = a ∨ g k = b) → BB M = some (.inr ((1 : Int32), M))) : ∀ q k M, mQk m t d M0 M k → k ≤ K → MRl vs m t d M0 M (lpS g a b f q k) (lp BB M) := sorry
