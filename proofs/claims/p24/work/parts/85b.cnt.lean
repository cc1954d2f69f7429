/-! the counts stay -/
theorem kw_o {r p x k a j : Nat} {M : gMem} (h : a ≠ r) : mI (kwM r p x k M) a j = mI M a j := by
  unfold kwM
  split
  · exact wI_o (.inl h)
  · rw [wI_o (.inl h), nt_g.2.2.2.2 a j (.inl h), wI_o (.inl h)]
theorem nb_o {r p k a j : Nat} {lo hi : Int32} {M : gMem} (h : a ≠ r) : mI (nbM r p lo hi k M) a j = mI M a j := by
  unfold nbM
  split
  · rw [nt_g.2.2.2.2 a j (.inl h), wI_o (.inl h)]
  · exact wI_o (.inl h)
theorem ad_o {Z : Nat → Nat} {o c a j : Nat} {v : Int32} {M : gMem} (h : a ≠ o + 5 ∧ a ≠ o + 7) : mI (adM Z o c v M) a j = mI M a j := by
  unfold adM
  split
  · rw [wI_o (.inl h.1), wI_o (.inl h.2)]; rfl
  · rfl
theorem pa_o {a v b j : Nat} {w : Int32} {M : gMem} (h : b ≠ a ∧ b ≠ a + 1) : mI (paM a w M) b j = mI M b j := by
  unfold paM
  split
  · rw [wI_o (.inl h.1), wI_o (.inl h.2)]
  · rfl
theorem st_cnt {Z : Nat → Nat} {r p o c i f : Nat} {M : gMem} (ho : o + 86 ≤ r) (hc : c < 51 ∨ 54 < c) : mI (stp1 Z r p o c i M) o f = mI M o f := by
  have hr : o ≠ r := by omega
  have wi : ∀ M1 d k v, 18 ≤ d → mI (wI M1 (o + d) k v) o f = mI M1 o f := fun M1 d k v h => wI_o (.inl (by omega))
  unfold stp1
  by_cases h : c = 16 ∨ c = 17 ∨ c = 4 ∨ c = 19
  · rw [if_pos h, ad_o (by omega), kw_o hr]
  rw [if_neg h]; clear h
  by_cases h : c = 2 ∨ c = 18
  · rw [if_pos h, ad_o (by omega), kw_o hr]
  rw [if_neg h]; clear h
  by_cases h : c = 41
  · rw [if_pos h, ad_o (by omega), nb_o hr]
  rw [if_neg h]; clear h
  by_cases h : c = 15 ∨ c = 44 ∨ c = 23 ∨ c = 24
  · rw [if_pos h, ad_o (by omega)]
  rw [if_neg h]; clear h
  by_cases h : c < 45
  · rw [if_pos h, ad_o (by omega)]
  rw [if_neg h, if_neg (by omega), if_neg (by omega), if_neg (by omega), if_neg (by omega)]; clear h
  by_cases h : c = 55
  · rw [if_pos h, wi _ _ _ _ (by omega), nb_o hr]
  rw [if_neg h]; clear h
  by_cases h : c = 57
  · rw [if_pos h, wi _ _ _ _ (by omega), wi _ _ _ _ (by omega), nb_o hr]
  rw [if_neg h]; clear h
  by_cases h : c = 58
  · rw [if_pos h, wi _ _ _ _ (by omega), nb_o hr]
  rw [if_neg h]; clear h
  by_cases h : c = 59
  · rw [if_pos h, wi _ _ _ _ (by omega), nb_o hr]
  rw [if_neg h]; clear h
  by_cases h : c = 60
  · rw [if_pos h, wi _ _ _ _ (by omega), kw_o hr]
  rw [if_neg h]; clear h
  by_cases h : c = 61
  · rw [if_pos h, wi _ _ _ _ (by omega), wi _ _ _ _ (by omega), kw_o hr]
  rw [if_neg h]; clear h
  by_cases h : c = 64 ∨ c = 66
  · rw [if_pos h, wi _ _ _ _ (by omega)]
  rw [if_neg h]; clear h
  by_cases h : c = 62
  · rw [if_pos h, pa_o (v := 0) (by omega), kw_o hr]
    by_cases q : hsP M o (lsn M o 5) (fnd M (r + 3) (mJ M (p + 4) i))
    · rw [cif_t q, nt_g.2.2.2.2 _ _ (.inl hr)]
    · rw [cif_f q]
  rw [if_neg h]; clear h
  by_cases h : c = 63
  · rw [if_pos h, wi _ _ _ _ (by omega), wi _ _ _ _ (by omega), kw_o hr]
  rw [if_neg h]; clear h
  by_cases h : c = 65
  · rw [if_pos h, wi _ _ _ _ (by omega)]
  rw [if_neg h]; clear h
  by_cases h : 1000 ≤ c
  · rw [if_pos h]
    split
    · rw [wi _ _ _ _ (by omega), nb_o hr]
    · rw [nb_o hr, nt_g.2.2.2.2 _ _ (.inl hr)]
  rw [if_neg h]
theorem rn_cnt {Z : Nat → Nat} {r p o f : Nat} (ho : o + 86 ≤ r) : ∀ (a : List (Nat × Nat)) (M : gMem), (∀ y ∈ a, y.1 < 51 ∨ 54 < y.1) → mI (rnE Z r p o a M) o f = mI M o f
  | [], M, _ => rfl
  | e :: t, M, h => by
    rw [rnE, rn_cnt ho t _ (fun y hy => h y (List.mem_cons_of_mem _ hy))]
    unfold stp2
    rw [st_cnt ho (h e List.mem_cons_self)]
    exact wI_o (.inl (by omega))

