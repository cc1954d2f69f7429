/-! ## Pure: the whole text as lines (written by gen99cf.py) -/
theorem smA_n {F G : Nat} : ∀ y ∈ ([] : List (Nat × Nat)), smE F G y := fun y hy => by cases hy
theorem smA_c {F G : Nat} {x : Nat × Nat} {l : List (Nat × Nat)} (h : smE F G x) (k : ∀ y ∈ l, smE F G y) : ∀ y ∈ x :: l, smE F G y := fun y hy => by
  rcases List.mem_cons.mp hy with e | e
  · rw [e]; exact h
  · exact k y e
theorem sm_o {F G c v : Nat} (h : c < 45 ∧ c ≠ 16 ∧ c ≠ 17 ∧ c ≠ 4 ∧ c ≠ 19 ∧ c ≠ 2 ∧ c ≠ 18) : smE F G (c, v) := ⟨h.1, fun z => by simp only at z; omega, fun z => by simp only at z; omega⟩
theorem sm_f {F G c j : Nat} (h : c = 16 ∨ c = 17 ∨ c = 4 ∨ c = 19) (hj : j < F) : smE F G (c, nmV 102 j) := ⟨by simp only; omega, fun _ => ⟨j, hj, rfl⟩, fun z => by simp only at z; omega⟩
theorem sm_g {F G c j : Nat} (h : c = 2 ∨ c = 18) (hj : j < G) : smE F G (c, nmV 103 j) := ⟨by simp only; omega, fun z => by simp only at z; omega, fun _ => ⟨j, hj, rfl⟩⟩
theorem gn_1 {g r z1 : Nat} (hg : g < 8) (hr : r < 10) (h_z1 : z1 < 100) : ∃ x, LNE x (gT g r [z1]) [(51, nmV 103 g), (55, r), (1001, z1)] ∧ (lnI x).length ≤ 15 := by
  rcases Nat.mod_two_eq_zero_or_one g with hp | hp
  · exact ⟨_, ln_G1_0 (by omega) hp (by omega) h_z1⟩
  · exact ⟨_, ln_G1_1 (by omega) hp (by omega) h_z1⟩
theorem gn_2 {g r z1 z2 : Nat} (hg : g < 8) (hr : r < 10) (h_z1 : z1 < 100) (h_z2 : z2 < 100) : ∃ x, LNE x (gT g r [z1, z2]) [(51, nmV 103 g), (55, r), (1001, z1), (1002, z2)] ∧ (lnI x).length ≤ 15 := by
  rcases Nat.mod_two_eq_zero_or_one g with hp | hp
  · exact ⟨_, ln_G2_0 (by omega) hp (by omega) h_z1 h_z2⟩
  · exact ⟨_, ln_G2_1 (by omega) hp (by omega) h_z1 h_z2⟩
theorem gn_3 {g r z1 z2 z3 : Nat} (hg : g < 8) (hr : r < 10) (h_z1 : z1 < 100) (h_z2 : z2 < 100) (h_z3 : z3 < 100) : ∃ x, LNE x (gT g r [z1, z2, z3]) [(51, nmV 103 g), (55, r), (1001, z1), (1002, z2), (1003, z3)] ∧ (lnI x).length ≤ 15 := by
  rcases Nat.mod_two_eq_zero_or_one g with hp | hp
  · exact ⟨_, ln_G3_0 (by omega) hp (by omega) h_z1 h_z2 h_z3⟩
  · exact ⟨_, ln_G3_1 (by omega) hp (by omega) h_z1 h_z2 h_z3⟩
theorem gn_4 {g r z1 z2 z3 z4 : Nat} (hg : g < 8) (hr : r < 10) (h_z1 : z1 < 100) (h_z2 : z2 < 100) (h_z3 : z3 < 100) (h_z4 : z4 < 100) : ∃ x, LNE x (gT g r [z1, z2, z3, z4]) [(51, nmV 103 g), (55, r), (1001, z1), (1002, z2), (1003, z3), (1004, z4)] ∧ (lnI x).length ≤ 15 := by
  rcases Nat.mod_two_eq_zero_or_one g with hp | hp
  · exact ⟨_, ln_G4_0 (by omega) hp (by omega) h_z1 h_z2 h_z3 h_z4⟩
  · exact ⟨_, ln_G4_1 (by omega) hp (by omega) h_z1 h_z2 h_z3 h_z4⟩
theorem gn_5 {g r z1 z2 z3 z4 z5 : Nat} (hg : g < 8) (hr : r < 10) (h_z1 : z1 < 100) (h_z2 : z2 < 100) (h_z3 : z3 < 100) (h_z4 : z4 < 100) (h_z5 : z5 < 100) : ∃ x, LNE x (gT g r [z1, z2, z3, z4, z5]) [(51, nmV 103 g), (55, r), (1001, z1), (1002, z2), (1003, z3), (1004, z4), (1005, z5)] ∧ (lnI x).length ≤ 15 := by
  rcases Nat.mod_two_eq_zero_or_one g with hp | hp
  · exact ⟨_, ln_G5_0 (by omega) hp (by omega) h_z1 h_z2 h_z3 h_z4 h_z5⟩
  · exact ⟨_, ln_G5_1 (by omega) hp (by omega) h_z1 h_z2 h_z3 h_z4 h_z5⟩
theorem gn_ls {g r : Nat} {zs : List Nat} (hg : g < 8) (h : gOk (r, zs)) : ∃ x, LNE x (gT g r zs) ((51, nmV 103 g) :: (55, r) :: szV 1 zs) ∧ (lnI x).length ≤ 15 := by
  obtain ⟨h1, h2, h3, h4, h5⟩ := h
  simp only at h1 h2 h3 h4 h5
  rcases zs with _ | ⟨z1, zs⟩
  · exact absurd h3 (by decide)
  rcases zs with _ | ⟨z2, zs⟩
  · have e : szV 1 [z1] = [(1001, z1)] := rfl
    rw [e]
    exact gn_1 hg (by omega) (h5 _ (by simp))
  rcases zs with _ | ⟨z3, zs⟩
  · have e : szV 1 [z1, z2] = [(1001, z1), (1002, z2)] := rfl
    rw [e]
    exact gn_2 hg (by omega) (h5 _ (by simp)) (h5 _ (by simp))
  rcases zs with _ | ⟨z4, zs⟩
  · have e : szV 1 [z1, z2, z3] = [(1001, z1), (1002, z2), (1003, z3)] := rfl
    rw [e]
    exact gn_3 hg (by omega) (h5 _ (by simp)) (h5 _ (by simp)) (h5 _ (by simp))
  rcases zs with _ | ⟨z5, zs⟩
  · have e : szV 1 [z1, z2, z3, z4] = [(1001, z1), (1002, z2), (1003, z3), (1004, z4)] := rfl
    rw [e]
    exact gn_4 hg (by omega) (h5 _ (by simp)) (h5 _ (by simp)) (h5 _ (by simp)) (h5 _ (by simp))
  rcases zs with _ | ⟨z6, zs⟩
  · have e : szV 1 [z1, z2, z3, z4, z5] = [(1001, z1), (1002, z2), (1003, z3), (1004, z4), (1005, z5)] := rfl
    rw [e]
    exact gn_5 hg (by omega) (h5 _ (by simp)) (h5 _ (by simp)) (h5 _ (by simp)) (h5 _ (by simp)) (h5 _ (by simp))
  · simp only [List.length_cons] at h4; omega
