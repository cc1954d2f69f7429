/-! ## Pure: how long the reference's code is -/
theorem pu_l {t L : Nat} {v : Int32} {M : gMem} (h : mI M t 22 = nI L) (hL : L < 2 ^ 30) : mI (puM t v M) t 22 = nI (L + 1) ∧ mI (puM t v M) t 24 = mI M t 24 := by
  unfold puM
  rw [wI_e, cn_e h (by omega), wI_o (.inr (by omega)), wI_o (.inl (by omega))]
  exact ⟨rfl, rfl⟩
theorem ms_l {vs : Nat → Nat} {m t c i L n : Nat} {M : gMem} (ht : m + 7 ≤ t) (hc : c < 45) (h : mI M t 22 = nI L) (hn : mI M t 24 = nI n) (hL : L < 2 ^ 29) (hn2 : n < 2 ^ 29) : mI (mst1 vs m t c i M) t 22 = nI (L + wd c) ∧ mI (mst1 vs m t c i M) t 24 = nI (n + if c = 2 ∨ c = 4 ∨ c = 16 ∨ c = 17 ∨ c = 18 ∨ c = 19 then 1 else 0) := by
  have en : ∀ w, mI (nmE m t c w i M) t 22 = nI (L + 2) ∧ mI (nmE m t c w i M) t 24 = nI (n + 1) := fun w => by
    obtain ⟨a1, a2⟩ := pu_l (v := nI c) h (by omega)
    unfold nmE roM
    rw [wI_o (.inl (by omega)), wI_o (.inl (by omega)), cn_e hn (by omega), cn_e h (by omega)]
    have b1 : mI (wI (wI (puM t (nI c) M) (t + 16) n (nI (L + 1))) t 24 (nI (n + 1))) t 22 = nI (L + 1) := by
      rw [wI_o (.inr (by omega)), wI_o (.inl (by omega)), a1]
    obtain ⟨c1, c2⟩ := pu_l (v := nI i) b1 (by omega)
    rw [c1, c2, wI_e]
    exact ⟨rfl, rfl⟩
  unfold mst1
  by_cases h1 : c = 16 ∨ c = 17 ∨ c = 4 ∨ c = 19
  · have w : wd c = 2 := by unfold wd; rw [if_pos (by omega)]
    rw [if_pos h1, w, if_pos (by omega)]; exact en _
  rw [if_neg h1]
  by_cases h2 : c = 2 ∨ c = 18
  · have w : wd c = 2 := by unfold wd; rw [if_pos (by omega)]
    rw [if_pos h2, w, if_pos (by omega)]; exact en _
  rw [if_neg h2]
  by_cases h3 : c = 41
  · have w : wd c = 2 := by unfold wd; rw [if_pos (by omega)]
    obtain ⟨a1, a2⟩ := pu_l (v := nI 30) h (by omega)
    obtain ⟨b1, b2⟩ := pu_l (v := nI (vs i)) a1 (by omega)
    rw [if_pos h3, w, if_neg (by omega), b1, b2, a2, hn]
    exact ⟨rfl, rfl⟩
  have w : wd c = 1 := by unfold wd; rw [if_neg (by omega)]
  obtain ⟨a1, a2⟩ := pu_l (v := nI (opc c)) h (by omega)
  rw [if_neg h3, if_pos hc, w, if_neg (by omega), a1, a2, hn]
  exact ⟨rfl, rfl⟩
theorem mr_l {vs : Nat → Nat} {m t : Nat} (ht : m + 7 ≤ t) : ∀ (es : List (Nat × Nat)) (L n : Nat) (M : gMem), (∀ y ∈ es, y.1 < 45) → mI M t 22 = nI L → mI M t 24 = nI n → L + we es < 2 ^ 29 → n + ne es < 2 ^ 29 → mI (mrn vs m t es M) t 22 = nI (L + we es) ∧ mI (mrn vs m t es M) t 24 = nI (n + ne es)
  | [], L, n, M, _, h, hn, _, _ => ⟨h, hn⟩
  | e :: r, L, n, M, hy, h, hn, h1, h2 => by
    have hc := hy e List.mem_cons_self
    have w1 : we (e :: r) = wd e.1 + we r := by rw [we, if_pos hc]
    have w2 : ne (e :: r) = (if e.1 = 2 ∨ e.1 = 4 ∨ e.1 = 16 ∨ e.1 = 17 ∨ e.1 = 18 ∨ e.1 = 19 then 1 else 0) + ne r := rfl
    obtain ⟨a1, a2⟩ := ms_l (vs := vs) (i := e.2) ht hc h hn (by omega) (by omega)
    obtain ⟨b1, b2⟩ := mr_l ht r _ _ _ (fun y q => hy y (List.mem_cons_of_mem _ q)) a1 a2 (by omega) (by omega)
    rw [mrn, b1, b2, w1, w2, Nat.add_assoc, Nat.add_assoc]
    exact ⟨rfl, rfl⟩

