/-! ## Pure: pacts -/
def hasN (f : Nat → Int32) (n : Nat) (x : Int32) : Prop := ∃ i : Nat, i < n ∧ f i = x
theorem lp_first {α β : Type} {f : α → Option (α ⊕ β)} (s : Nat → α) {b : β} (q : Nat → Prop) : ∀ (n i : Nat), i ≤ n → (∀ j, i ≤ j → j < n → ¬ q j → f (s j) = some (.inl (s (j + 1)))) → (∀ j, i ≤ j → j < n → q j → f (s j) = some (.inr b)) → (∃ j, i ≤ j ∧ j < n ∧ q j) → lp f (s i) = some b := by
  intro n i hi h1 h2 ⟨k, k1, k2, k3⟩
  obtain ⟨d, rfl⟩ : ∃ d, k = i + d := ⟨k - i, by omega⟩
  clear k1
  induction d generalizing i with
  | zero => exact lp_out (h2 i (Nat.le_refl _) k2 k3)
  | succ d ih =>
    by_cases hq : q i
    · exact lp_out (h2 i (Nat.le_refl _) (by omega) hq)
    · rw [lp_in (h1 i (Nat.le_refl _) (by omega) hq)]
      exact ih (i + 1) (by omega) (fun j a b c => h1 j (by omega) b c) (fun j a b c => h2 j (by omega) b c) (by omega) (by rw [show i + 1 + d = i + (d + 1) by omega]; exact k3)
theorem s5_has {M : gMem} {o i n : Nat} {x : Int32} {sg : Nat → Nat → Int32} (L : LC o M) (hi : i < 6) (h : sg (74 + 2 * i) 3 = nI n) (hn : n ≤ 8) : f_X5_has (sC o sg M) (o + (74 + 2 * i)) x = some (cif (hasN (sg (75 + 2 * i)) n x) 1 0, sC o sg M) := by
  unfold f_X5_has b_X5_has_0 lp_X5_has_2
  have step : ∀ j, j < n → bb_X5_has_2 (sC o sg M) (o + (74 + 2 * i)) x (nI j) = (if sg (75 + 2 * i) j = x then some (.inr (nI 1, sC o sg M)) else some (.inl (sC o sg M, nI (j + 1)))) := by
    intro j hj
    simp (disch := first | assumption | omega) [bb_X5_has_2, lit, nI_leI, ck_T, ck_t, dr_S, lw_S, oI_S, inbN, nI_clamp, nI_add, sC_I, h, cTp, cRp, cTpf, cLpf, Nat.not_le.mpr hj]
  by_cases hx : hasN (sg (75 + 2 * i)) n x
  · rw [cif_t hx]
    obtain ⟨k, k1, k2⟩ := hx
    exact lp_first (fun j => (sC o sg M, nI j)) (fun j => sg (75 + 2 * i) j = x) n 0 (by omega) (fun j _ hj hq => (step j hj).trans (if_neg hq)) (fun j _ hj hq => (step j hj).trans (if_pos hq)) ⟨k, by omega, k1, k2⟩
  · rw [cif_f hx]
    refine lp_seq (fun j => (sC o sg M, nI j)) 0 n (by omega) (fun j _ hj => (step j hj).trans (if_neg fun q => hx ⟨j, hj, q⟩)) ?_
    simp (disch := first | assumption | omega) [bb_X5_has_2, lit, nI_leI, ck_T, ck_t, oI_S, sC_I, h, cTp]

