/-! ## Pure: the whole text as lines, 2 (written by gen99cf.py) -/
theorem on_ls {F G k : Nat} {y : Nat × Nat × Nat × Nat × Nat × Nat × Nat} (hF : F ≤ 8) (hG : G ≤ 8) (h : oOk F G y) : ∃ x v0 v1 c sm, LNE x (oT k y) ((54, v0) :: (60, nmV 102 y.1) :: (61, nmV 103 y.2.1) :: (sm ++ [(c, v1)])) ∧ (lnI x).length ≤ 21 ∧ (c = 64 ∨ c = 66) ∧ (∀ x ∈ sm, smE F G x) ∧ ((y.2.2.1 = 3 ∨ y.2.2.1 = 7) ∨ (sm.any fun x => decide (x.1 = 19)) = false) := by
  obtain ⟨f, g, q, i, a, b, n⟩ := y
  obtain ⟨h1, h2, h3, h4, h5, h6, h7⟩ := h
  simp only at h1 h2 h3 h4 h5 h6 h7 ⊢
  rcases (show q = 0 ∨ q = 1 ∨ q = 2 ∨ q = 3 ∨ q = 4 ∨ q = 5 ∨ q = 6 ∨ q = 7 by omega) with rfl | rfl | rfl | rfl | rfl | rfl | rfl | rfl
  · by_cases hk : k % 3 = 0
    · have e := ln_O0_1 (f := f) (g := g) (q := i) (a := a) (b := b) (n := n) (by omega) (by omega) (by omega) (by omega) (by omega) (by omega) hk
      exact ⟨_, 0, 0, 66, [], e.1, e.2, .inr rfl, smA_n, .inr rfl⟩
    · have e := ln_O0_0 (f := f) (g := g) (q := i) (a := a) (b := b) (n := n) (by omega) (by omega) (by omega) (by omega) (by omega) (by omega) hk
      exact ⟨_, 0, 0, 66, [], e.1, e.2, .inr rfl, smA_n, .inr rfl⟩
  · by_cases hk : k % 3 = 0
    · have e := ln_O1_1 (f := f) (g := g) (q := i) (a := a) (b := b) (n := n) (by omega) (by omega) (by omega) (by omega) (by omega) (by omega) hk
      exact ⟨_, 0, 0, 64, [(2, nmV 103 i), (41, n), (39, 0)], e.1, e.2, .inl rfl, (smA_c (sm_g (by decide) (by assumption)) (smA_c (sm_o (by decide)) (smA_c (sm_o (by decide)) smA_n))), .inr rfl⟩
    · have e := ln_O1_0 (f := f) (g := g) (q := i) (a := a) (b := b) (n := n) (by omega) (by omega) (by omega) (by omega) (by omega) (by omega) hk
      exact ⟨_, 0, 0, 64, [(2, nmV 103 i), (41, n), (39, 0)], e.1, e.2, .inl rfl, (smA_c (sm_g (by decide) (by assumption)) (smA_c (sm_o (by decide)) (smA_c (sm_o (by decide)) smA_n))), .inr rfl⟩
  · by_cases hk : k % 3 = 0
    · have e := ln_O2_1 (f := f) (g := g) (q := i) (a := a) (b := b) (n := n) (by omega) (by omega) (by omega) (by omega) (by omega) (by omega) hk
      exact ⟨_, 0, 0, 64, [(18, nmV 103 i), (41, (n % 4)), (35, 0), (15, 0), (41, (n % 7)), (36, 0), (21, 0)], e.1, e.2, .inl rfl, (smA_c (sm_g (by decide) (by assumption)) (smA_c (sm_o (by decide)) (smA_c (sm_o (by decide)) (smA_c (sm_o (by decide)) (smA_c (sm_o (by decide)) (smA_c (sm_o (by decide)) (smA_c (sm_o (by decide)) smA_n))))))), .inr rfl⟩
    · have e := ln_O2_0 (f := f) (g := g) (q := i) (a := a) (b := b) (n := n) (by omega) (by omega) (by omega) (by omega) (by omega) (by omega) hk
      exact ⟨_, 0, 0, 64, [(18, nmV 103 i), (41, (n % 4)), (35, 0), (15, 0), (41, (n % 7)), (36, 0), (21, 0)], e.1, e.2, .inl rfl, (smA_c (sm_g (by decide) (by assumption)) (smA_c (sm_o (by decide)) (smA_c (sm_o (by decide)) (smA_c (sm_o (by decide)) (smA_c (sm_o (by decide)) (smA_c (sm_o (by decide)) (smA_c (sm_o (by decide)) smA_n))))))), .inr rfl⟩
  · by_cases hk : k % 3 = 0
    · have e := ln_O3_1 (f := f) (g := g) (q := i) (a := a) (b := b) (n := n) (by omega) (by omega) (by omega) (by omega) (by omega) (by omega) hk
      exact ⟨_, 0, 0, 64, [(19, nmV 102 a), (20, 0)], e.1, e.2, .inl rfl, (smA_c (sm_f (by decide) (by assumption)) (smA_c (sm_o (by decide)) smA_n)), .inl (.inl rfl)⟩
    · have e := ln_O3_0 (f := f) (g := g) (q := i) (a := a) (b := b) (n := n) (by omega) (by omega) (by omega) (by omega) (by omega) (by omega) hk
      exact ⟨_, 0, 0, 64, [(19, nmV 102 a), (20, 0)], e.1, e.2, .inl rfl, (smA_c (sm_f (by decide) (by assumption)) (smA_c (sm_o (by decide)) smA_n)), .inl (.inl rfl)⟩
  · by_cases hk : k % 3 = 0
    · have e := ln_O4_1 (f := f) (g := g) (q := i) (a := a) (b := b) (n := n) (by omega) (by omega) (by omega) (by omega) (by omega) (by omega) hk
      exact ⟨_, 0, 0, 64, [(16, nmV 102 a), (41, n), (35, 0), (17, nmV 102 b), (41, 0), (37, 0), (22, 0)], e.1, e.2, .inl rfl, (smA_c (sm_f (by decide) (by assumption)) (smA_c (sm_o (by decide)) (smA_c (sm_o (by decide)) (smA_c (sm_f (by decide) (by assumption)) (smA_c (sm_o (by decide)) (smA_c (sm_o (by decide)) (smA_c (sm_o (by decide)) smA_n))))))), .inr rfl⟩
    · have e := ln_O4_0 (f := f) (g := g) (q := i) (a := a) (b := b) (n := n) (by omega) (by omega) (by omega) (by omega) (by omega) (by omega) hk
      exact ⟨_, 0, 0, 64, [(16, nmV 102 a), (41, n), (35, 0), (17, nmV 102 b), (41, 0), (37, 0), (22, 0)], e.1, e.2, .inl rfl, (smA_c (sm_f (by decide) (by assumption)) (smA_c (sm_o (by decide)) (smA_c (sm_o (by decide)) (smA_c (sm_f (by decide) (by assumption)) (smA_c (sm_o (by decide)) (smA_c (sm_o (by decide)) (smA_c (sm_o (by decide)) smA_n))))))), .inr rfl⟩
  · by_cases hk : k % 3 = 0
    · have e := ln_O5_1 (f := f) (g := g) (q := i) (a := a) (b := b) (n := n) (by omega) (by omega) (by omega) (by omega) (by omega) (by omega) hk
      exact ⟨_, 0, 0, 64, [(4, nmV 102 a), (41, (n % 5)), (36, 0), (15, 0), (41, 3), (34, 0), (41, 3), (33, 0), (15, 0), (37, 0), (22, 0)], e.1, e.2, .inl rfl, (smA_c (sm_f (by decide) (by assumption)) (smA_c (sm_o (by decide)) (smA_c (sm_o (by decide)) (smA_c (sm_o (by decide)) (smA_c (sm_o (by decide)) (smA_c (sm_o (by decide)) (smA_c (sm_o (by decide)) (smA_c (sm_o (by decide)) (smA_c (sm_o (by decide)) (smA_c (sm_o (by decide)) (smA_c (sm_o (by decide)) smA_n))))))))))), .inr rfl⟩
    · have e := ln_O5_0 (f := f) (g := g) (q := i) (a := a) (b := b) (n := n) (by omega) (by omega) (by omega) (by omega) (by omega) (by omega) hk
      exact ⟨_, 0, 0, 64, [(4, nmV 102 a), (41, (n % 5)), (36, 0), (15, 0), (41, 3), (34, 0), (41, 3), (33, 0), (15, 0), (37, 0), (22, 0)], e.1, e.2, .inl rfl, (smA_c (sm_f (by decide) (by assumption)) (smA_c (sm_o (by decide)) (smA_c (sm_o (by decide)) (smA_c (sm_o (by decide)) (smA_c (sm_o (by decide)) (smA_c (sm_o (by decide)) (smA_c (sm_o (by decide)) (smA_c (sm_o (by decide)) (smA_c (sm_o (by decide)) (smA_c (sm_o (by decide)) (smA_c (sm_o (by decide)) smA_n))))))))))), .inr rfl⟩
  · by_cases hk : k % 3 = 0
    · have e := ln_O6_1 (f := f) (g := g) (q := i) (a := a) (b := b) (n := n) (by omega) (by omega) (by omega) (by omega) (by omega) (by omega) hk
      exact ⟨_, 0, 0, 64, [(16, nmV 102 a), (16, nmV 102 b), (23, 0), (41, n), (15, 0), (32, 0), (38, 0)], e.1, e.2, .inl rfl, (smA_c (sm_f (by decide) (by assumption)) (smA_c (sm_f (by decide) (by assumption)) (smA_c (sm_o (by decide)) (smA_c (sm_o (by decide)) (smA_c (sm_o (by decide)) (smA_c (sm_o (by decide)) (smA_c (sm_o (by decide)) smA_n))))))), .inr rfl⟩
    · have e := ln_O6_0 (f := f) (g := g) (q := i) (a := a) (b := b) (n := n) (by omega) (by omega) (by omega) (by omega) (by omega) (by omega) hk
      exact ⟨_, 0, 0, 64, [(16, nmV 102 a), (16, nmV 102 b), (23, 0), (41, n), (15, 0), (32, 0), (38, 0)], e.1, e.2, .inl rfl, (smA_c (sm_f (by decide) (by assumption)) (smA_c (sm_f (by decide) (by assumption)) (smA_c (sm_o (by decide)) (smA_c (sm_o (by decide)) (smA_c (sm_o (by decide)) (smA_c (sm_o (by decide)) (smA_c (sm_o (by decide)) smA_n))))))), .inr rfl⟩
  · by_cases hk : k % 3 = 0
    · have e := ln_O7_1 (f := f) (g := g) (q := i) (a := a) (b := b) (n := n) (by omega) (by omega) (by omega) (by omega) (by omega) (by omega) hk
      exact ⟨_, 0, 0, 64, [(19, nmV 102 a), (2, nmV 103 i), (18, nmV 103 i), (32, 0), (41, (n % 20)), (36, 0), (21, 0), (17, nmV 102 b), (41, (n % 9)), (36, 0), (22, 0)], e.1, e.2, .inl rfl, (smA_c (sm_f (by decide) (by assumption)) (smA_c (sm_g (by decide) (by assumption)) (smA_c (sm_g (by decide) (by assumption)) (smA_c (sm_o (by decide)) (smA_c (sm_o (by decide)) (smA_c (sm_o (by decide)) (smA_c (sm_o (by decide)) (smA_c (sm_f (by decide) (by assumption)) (smA_c (sm_o (by decide)) (smA_c (sm_o (by decide)) (smA_c (sm_o (by decide)) smA_n))))))))))), .inl (.inr rfl)⟩
    · have e := ln_O7_0 (f := f) (g := g) (q := i) (a := a) (b := b) (n := n) (by omega) (by omega) (by omega) (by omega) (by omega) (by omega) hk
      exact ⟨_, 0, 0, 64, [(19, nmV 102 a), (2, nmV 103 i), (18, nmV 103 i), (32, 0), (41, (n % 20)), (36, 0), (21, 0), (17, nmV 102 b), (41, (n % 9)), (36, 0), (22, 0)], e.1, e.2, .inl rfl, (smA_c (sm_f (by decide) (by assumption)) (smA_c (sm_g (by decide) (by assumption)) (smA_c (sm_g (by decide) (by assumption)) (smA_c (sm_o (by decide)) (smA_c (sm_o (by decide)) (smA_c (sm_o (by decide)) (smA_c (sm_o (by decide)) (smA_c (sm_f (by decide) (by assumption)) (smA_c (sm_o (by decide)) (smA_c (sm_o (by decide)) (smA_c (sm_o (by decide)) smA_n))))))))))), .inl (.inr rfl)⟩
