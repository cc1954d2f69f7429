/-! ## Pure: the whole second pass against the class -/
theorem P2_op {Z g ps vs : Nat → Nat} {K r p o : Nat} {M0 : gMem} (W : CWd Z g ps vs K r p o M0) {m t : Nat} {D : gMem} {pre : List (Nat × Nat)} {k i c h h1 : Nat} {q q1 : Nat × Nat × Nat × Nat} {C : gMem} (CC : CI r o M0 C) (R : RAp Z vs r o m t pre k q C D) (hA : aA c q = some q1) (hH : hC c h = some h1) (tk : ¬ tkC c = true) (hE : c < 45 → (ceL pre).length < 400) : RAp Z vs r o m t (pre ++ [(c, i)]) k q1 (stp2 Z r p o (c, i) C) D := by
  have ok := aA_ok hA
  unfold okC at ok
  unfold RAp
  rw [pre_1, if_neg (fun z => tk z.1), pre_1, if_neg (fun z => tk z.1), pre_1, if_neg (fun z => tk z.1)]
  by_cases c45 : c < 45
  · have cv : c = 15 ∨ c = 44 ∨ (20 ≤ c ∧ c ≤ 24) ∨ (31 ≤ c ∧ c ≤ 39) := by
      unfold hC at hH
      by_cases z1 : c = 41 ∨ c = 2 ∨ c = 4 ∨ c = 15 ∨ c = 16 ∨ c = 17 ∨ c = 18 ∨ c = 19
      · have : ∀ c, c < 45 → c = 41 ∨ c = 2 ∨ c = 4 ∨ c = 16 ∨ c = 17 ∨ c = 18 ∨ c = 19 → tkC c = true := by decide +kernel
        by_cases z2 : c = 15
        · exact .inl z2
        · exact absurd (this c c45 (by omega)) tk
      rw [if_neg z1] at hH
      by_cases z2 : c = 20 ∨ c = 44
      · omega
      rw [if_neg z2] at hH
      by_cases z3 : c = 21 ∨ c = 22 ∨ c = 23 ∨ c = 24 ∨ (31 ≤ c ∧ c ≤ 39)
      · omega
      rw [if_neg z3, if_neg (by omega), if_neg (by omega), if_neg (by omega), if_neg (by omega)] at hH
      cases hH
    have hb : q.2.2.1 ≠ 1 ∧ q.2.2.1 ≠ 2 ∧ q.2.2.2 ≠ 1 := by
      unfold aA at hA
      rw [if_pos c45] at hA
      by_cases z : q.2.2.1 = 1 ∨ q.2.2.1 = 2 ∨ q.2.2.2 = 1
      · rw [if_pos z] at hA; cases hA
      · omega
    rw [aA_c c45 hb] at hA
    cases hA
    rw [pre_2, if_pos c45, pre_3, if_neg (by omega)]
    exact N_op W CC R (hE c45) cv hb.2.2
  rw [pre_2, if_neg c45]
  by_cases c100 : 1000 ≤ c
  · exfalso
    refine tk ?_
    unfold tkC
    rw [show decide (50 ≤ c) = true from decide_eq_true (by omega), show (c != 64) = true from bne_iff_ne.mpr (by omega), show (c != 65) = true from bne_iff_ne.mpr (by omega), show (c != 66) = true from bne_iff_ne.mpr (by omega)]
    simp
  have tk5 : ∀ x, x < 67 → 51 ≤ x → x ≤ 63 → tkC x = true := by decide +kernel
  have c6 : c = 64 ∨ c = 65 ∨ c = 66 := by
    by_cases z : c ≤ 63
    · exact absurd (tk5 c (by omega) (by omega) z) tk
    · omega
  rw [pre_3, if_neg (by omega)]
  rcases c6 with h | h | h
  · subst h
    have e : aA 64 q = (if q.2.2.1 = 3 ∧ q.2.2.2 ≠ 3 then some (q.1, q.2.1, 4, q.2.2.2) else none) := rfl
    rw [e] at hA
    by_cases z : q.2.2.1 = 3 ∧ q.2.2.2 ≠ 3
    · rw [if_pos z] at hA
      cases hA
      exact N_64 W CC R (.inl rfl) z.1
    · rw [if_neg z] at hA; cases hA
  · subst h
    have e : aA 65 q = (if q.2.2.2 = 3 ∧ q.2.2.1 ≠ 3 then some (q.1, q.2.1, q.2.2.1, 4) else none) := rfl
    rw [e] at hA
    by_cases z : q.2.2.2 = 3 ∧ q.2.2.1 ≠ 3
    · rw [if_pos z] at hA
      cases hA
      exact N_65 W CC R z.1
    · rw [if_neg z] at hA; cases hA
  · subst h
    have e : aA 66 q = (if q.2.2.1 = 3 ∧ q.2.2.2 ≠ 3 then some (q.1, q.2.1, 4, q.2.2.2) else none) := rfl
    rw [e] at hA
    by_cases z : q.2.2.1 = 3 ∧ q.2.2.2 ≠ 3
    · rw [if_pos z] at hA
      cases hA
      exact N_64 W CC R (.inr rfl) z.1
    · rw [if_neg z] at hA; cases hA
theorem M2_9 {m t j j' : Nat} {D0 D : gMem} (ht : m + 7 ≤ t) (h : M2I m t (wI D0 m 9 (nI j)) D) : M2I m t (wI D0 m 9 (nI j')) (wI D m 9 (nI j')) := by
  obtain ⟨h1, h2, h3, h4⟩ := h
  refine ⟨h1, fun a a1 a2 a3 => ?_, fun i => ?_, fun i i1 i2 i3 i4 i5 => ?_⟩
  · have := h2 a a1 a2 a3
    funext i
    have e := congrFun this i
    rw [wI_o (.inl a1)] at e
    rw [wI_o (.inl a1), wI_o (.inl a1)]; exact e
  · have e := h3 i
    by_cases z : i = 9
    · rw [z, wI_e, wI_e]
    · rw [wI_o (.inr z)] at e
      rw [wI_o (.inr z), wI_o (.inr z)]; exact e
  · have e := h4 i i1 i2 i3 i4 i5
    rw [wI_o (.inl (by omega))] at e
    rw [wI_o (.inl (by omega)), wI_o (.inl (by omega))]; exact e
theorem RA_9 {Z vs : Nat → Nat} {r o m t k k' : Nat} {pre : List (Nat × Nat)} {q : Nat × Nat × Nat × Nat} {C D : gMem} {v : Int32} (ht : m + 7 ≤ t) (R : RAp Z vs r o m t pre k q C D) (hk : k ≤ k') : RAp Z vs r o m t pre k' q C (wI D m 9 v) := by
  obtain ⟨h7, RG1, RF1, RO1, RP1, RV1⟩ := R
  have ad : ∀ a k, a ≠ m → mI (wI D m 9 v) a k = mI D a k := fun a k h => wI_o (.inl h)
  exact ⟨h7, RG_fr RG1 (fun _ _ _ => rfl) (fun _ => rfl) (fun a k h => ad a k (by omega)), RF_fr RF1 (fun _ _ _ => rfl) (fun _ => rfl) (fun a k h => ad a k (by omega)), RO_fr RO1 (Nat.le_refl _) (Nat.le_refl _) (fun _ _ _ => rfl) (fun a k h => ad a k (by omega)), RP_fr RP1 (Nat.le_refl _) (Nat.le_refl _) (fun _ _ _ => rfl) (fun _ => rfl) (fun a k h => ad a k (by omega)), RV_fr RV1 (Nat.le_refl _) (Nat.le_refl _) hk (fun _ _ _ => rfl) (fun _ => rfl) (fun j _ => ad _ _ (by omega))⟩
