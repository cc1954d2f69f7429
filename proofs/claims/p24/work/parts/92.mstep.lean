/-! ## Pure: what an event does to the reference's memory as it reads -/
def nmE (m t c : Nat) (w : Int32) (i : Nat) (M : gMem) : gMem :=
  roM m i w (puM t (nI i) (wI (wI (puM t (nI c) M) (t + 16) (cn M t 24) (nI (cn M t 22 + 1))) t 24 (nI (cn M t 24 + 1))))
def mst1 (vs : Nat → Nat) (m t c i : Nat) (M : gMem) : gMem :=
  if c = 16 ∨ c = 17 ∨ c = 4 ∨ c = 19 then nmE m t c 14 i M
  else if c = 2 ∨ c = 18 then nmE m t c 15 i M
  else if c = 41 then puM t (nI (vs i)) (puM t (nI 30) M)
  else if c < 45 then puM t (nI (opc c)) M
  else if c = 53 then wI (wI (roM m i (nI 3) M) (t + 13) (min (cn M t 16) 6) (mI M t 22)) t 16 (nI (cn M t 16 + 1))
  else if c = 54 then wI (wI (roM m i (nI 4) M) t 15 (nI (cn M t 15 + 1))) (t + 11) (min (cn M t 15) 24) (mI M t 22)
  else if c = 64 ∨ c = 66 then wI M (t + 12) (min (cn M t 15 - 1) 24) (mI M t 22)
  else if c = 65 then wI M (t + 14) (min (cn M t 16 - 1) 6) (mI M t 22)
  else if 1000 ≤ c then roM m i (nI 6) M
  else if 50 ≤ c then roM m i (nI (c - 50)) M
  else M
def mrn (vs : Nat → Nat) (m t : Nat) : List (Nat × Nat) → gMem → gMem
  | [], M => M
  | e :: r, M => mrn vs m t r (mst1 vs m t e.1 e.2 M)
theorem mrn_app {vs : Nat → Nat} {m t : Nat} : ∀ (a b : List (Nat × Nat)) (M : gMem), mrn vs m t (a ++ b) M = mrn vs m t b (mrn vs m t a M)
  | [], b, M => rfl
  | e :: r, b, M => by rw [List.cons_append, mrn, mrn, mrn_app r b]
/-- the token and the depth set -/
def td' (m k d : Nat) (M : gMem) : gMem := wI (wI M m 9 (nI k)) m 10 (nI d)
theorem td_w {m t k d a j : Nat} {v : Int32} {M : gMem} (h : a ≠ m) : wI (td' m k d M) a j v = td' m k d (wI M a j v) := by
  unfold td'
  rw [wI_cm (a := m) (b := a) (.inl (Ne.symm h)), wI_cm (a := m) (b := a) (.inl (Ne.symm h))]
theorem td_c {m k d a j : Nat} {M : gMem} (h : a ≠ m) : cn (td' m k d M) a j = cn M a j ∧ mI (td' m k d M) a j = mI M a j := by
  have e : mI (td' m k d M) a j = mI M a j := by unfold td'; rw [wI_o (.inl h), wI_o (.inl h)]
  exact ⟨by unfold cn; rw [e], e⟩
theorem td_p {m t k d : Nat} {v : Int32} {M : gMem} (ht : m + 7 ≤ t) : puM t v (td' m k d M) = td' m k d (puM t v M) := by
  unfold puM
  rw [(td_c (by omega)).1, td_w (t := t) (by omega), td_w (t := t) (by omega)]
theorem td_r {m k d i : Nat} {w : Int32} {M : gMem} : roM m i w (td' m k d M) = td' m k d (roM m i w M) := by
  unfold roM
  rw [td_w (t := 0) (by omega)]
theorem td_s {vs : Nat → Nat} {m t c i k d : Nat} {M : gMem} (ht : m + 7 ≤ t) : mst1 vs m t c i (td' m k d M) = td' m k d (mst1 vs m t c i M) := by
  have e1 : ∀ j, cn (td' m k d M) t j = cn M t j := fun j => (td_c (by omega)).1
  have e2 : ∀ j, mI (td' m k d M) t j = mI M t j := fun j => (td_c (by omega)).2
  have tw : ∀ X a j v, t ≤ a → wI (td' m k d X) a j v = td' m k d (wI X a j v) := fun X a j v h => td_w (t := t) (by omega)
  have en : ∀ w, nmE m t c w i (td' m k d M) = td' m k d (nmE m t c w i M) := fun w => by
    unfold nmE
    rw [e1, e1, td_p ht, tw _ _ _ _ (by omega), tw _ _ _ _ (Nat.le_refl _), td_p ht, td_r]
  unfold mst1
  rw [e1, e1, e2]
  by_cases h : c = 16 ∨ c = 17 ∨ c = 4 ∨ c = 19
  · rw [if_pos h, if_pos h, en]
  rw [if_neg h, if_neg h]; clear h
  by_cases h : c = 2 ∨ c = 18
  · rw [if_pos h, if_pos h, en]
  rw [if_neg h, if_neg h]; clear h
  by_cases h : c = 41
  · rw [if_pos h, if_pos h, td_p ht, td_p ht]
  rw [if_neg h, if_neg h]; clear h
  by_cases h : c < 45
  · rw [if_pos h, if_pos h, td_p ht]
  rw [if_neg h, if_neg h]; clear h
  by_cases h : c = 53
  · rw [if_pos h, if_pos h, td_r, tw _ _ _ _ (by omega), tw _ _ _ _ (Nat.le_refl _)]
  rw [if_neg h, if_neg h]; clear h
  by_cases h : c = 54
  · rw [if_pos h, if_pos h, td_r, tw _ _ _ _ (Nat.le_refl _), tw _ _ _ _ (by omega)]
  rw [if_neg h, if_neg h]; clear h
  by_cases h : c = 64 ∨ c = 66
  · rw [if_pos h, if_pos h, tw _ _ _ _ (by omega)]
  rw [if_neg h, if_neg h]; clear h
  by_cases h : c = 65
  · rw [if_pos h, if_pos h, tw _ _ _ _ (by omega)]
  rw [if_neg h, if_neg h]; clear h
  by_cases h : 1000 ≤ c
  · rw [if_pos h, if_pos h, td_r]
  rw [if_neg h, if_neg h]; clear h
  by_cases h : 50 ≤ c
  · rw [if_pos h, if_pos h, td_r]
  rw [if_neg h, if_neg h]

