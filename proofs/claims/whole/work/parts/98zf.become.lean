/-! ## Pure: the reference looks ahead -/
def bcm (src st : Nat → Nat → Int32) : Nat → Nat → Nat → Int32
  | 0 => st
  | j + 1 => up1 (bcm src st j) (j + 1) (va_cpy (src (j + 1)) (bcm src st j (j + 1)) 0 0 (lenS (j + 1)))
theorem bcm_o {src st : Nat → Nat → Int32} {d : Nat} : ∀ j, (d = 0 ∨ j < d) → bcm src st j d = st d
  | 0, _ => rfl
  | j + 1, h => by rw [bcm, up1_o (by omega), bcm_o j (by omega)]
theorem bcm_v {src st : Nat → Nat → Int32} {d k : Nat} : ∀ j, 1 ≤ d → d ≤ j → k < lenS d → bcm src st j d k = src d k
  | 0, h, h2, _ => by omega
  | j + 1, h, h2, hk => by
    rw [bcm]
    by_cases e : d = j + 1
    · subst e
      rw [up1_e, va_cpy_in (by omega)]
      simp
    · rw [up1_o e]
      exact bcm_v j h (by omega) hk
theorem X12_bec {m t : Nat} {X : gMem} (LA : LSt m t (m + 24) X) (LB : LSt m t (m + 41) X) : ∃ st', f_X12_become X (m + 41) (some (m + 24)) = some ((), bC 17 (m + 41) st' X) ∧ st' 0 0 = mI X (m + 24) 0 ∧ st' 0 1 = mI X (m + 24) 1 ∧ ∀ j k, 1 ≤ j → j < 13 → k < lenS j → st' j k = mI X (m + 24 + j) k := by
  obtain ⟨src, hsrc⟩ : ∃ src : Nat → Nat → Int32, src = fun j => mI X (m + 24 + j) := ⟨_, rfl⟩
  obtain ⟨s0, hs0⟩ : ∃ s0, s0 = up2 (up2 (cutF 17 (m + 41) X) 0 0 (mI X (m + 24) 0)) 0 1 (mI X (m + 24) 1) := ⟨_, rfl⟩
  have st : ∀ j, j < 12 → f_X12_copy (bC 17 (m + 41) (bcm src s0 j) X) (m + 41) (some (m + 24 + (j + 1))) (some (m + 41 + (j + 1))) = some ((), bC 17 (m + 41) (bcm src s0 (j + 1)) X) := fun j hj => by
    have hA := LA.2.2.1 (j + 1) (by omega) (by omega)
    have hB := LB.2.2.1 (j + 1) (by omega) (by omega)
    rw [X12_cp (n := lenS (j + 1)) (by omega) (by omega) hA.1 hB.1 hA.2.1 hB.2.1 ((by decide : ∀ j, j < 17 → lenS j ≤ 400) (j + 1) (by omega)), bcm, hsrc]
  have w : ∀ Y, Y = bC 17 (m + 41) (cutF 17 (m + 41) X) X → wI (wI Y (m + 41) 0 (mI X (m + 24) 0)) (m + 41) 1 (mI X (m + 24) 1) = bC 17 (m + 41) (bcm src s0 0) X := by
    rintro _ rfl
    rw [bC_W0 (by omega), bC_W0 (by omega), ← hs0]
    rfl
  have w1 := w _ bC_cut.symm
  refine ⟨bcm src s0 12, ?_, ?_, ?_, fun j k j1 j2 hk => ?_⟩
  · unfold f_X12_become b_X12_become_0
    rw [dr_S, ck_t LA.1.1, ck_t LB.1.1, lw_S, wI_o (.inl (by omega)), w1, lw_S]
    rw [show mR (bC 17 (m + 41) (bcm src s0 0) X) (m + 24) 2 = some (m + 24 + 1) from (LA.2.2.1 1 (by omega) (by omega)).2.2, show mR (bC 17 (m + 41) (bcm src s0 0) X) (m + 41) 2 = some (m + 41 + 1) from (LB.2.2.1 1 (by omega) (by omega)).2.2, bd_s (st 0 (by omega))]
    rw [ck_t (show mT (bC 17 (m + 41) (bcm src s0 1) X) (m + 24) = 11 from LA.1.1), ck_t (show mT (bC 17 (m + 41) (bcm src s0 1) X) (m + 41) = 11 from LB.1.1), show mR (bC 17 (m + 41) (bcm src s0 1) X) (m + 24) 3 = some (m + 24 + 2) from (LA.2.2.1 2 (by omega) (by omega)).2.2, show mR (bC 17 (m + 41) (bcm src s0 1) X) (m + 41) 3 = some (m + 41 + 2) from (LB.2.2.1 2 (by omega) (by omega)).2.2, bd_s (st 1 (by omega))]
    rw [ck_t (show mT (bC 17 (m + 41) (bcm src s0 2) X) (m + 24) = 11 from LA.1.1), ck_t (show mT (bC 17 (m + 41) (bcm src s0 2) X) (m + 41) = 11 from LB.1.1), show mR (bC 17 (m + 41) (bcm src s0 2) X) (m + 24) 4 = some (m + 24 + 3) from (LA.2.2.1 3 (by omega) (by omega)).2.2, show mR (bC 17 (m + 41) (bcm src s0 2) X) (m + 41) 4 = some (m + 41 + 3) from (LB.2.2.1 3 (by omega) (by omega)).2.2, bd_s (st 2 (by omega))]
    rw [ck_t (show mT (bC 17 (m + 41) (bcm src s0 3) X) (m + 24) = 11 from LA.1.1), ck_t (show mT (bC 17 (m + 41) (bcm src s0 3) X) (m + 41) = 11 from LB.1.1), show mR (bC 17 (m + 41) (bcm src s0 3) X) (m + 24) 5 = some (m + 24 + 4) from (LA.2.2.1 4 (by omega) (by omega)).2.2, show mR (bC 17 (m + 41) (bcm src s0 3) X) (m + 41) 5 = some (m + 41 + 4) from (LB.2.2.1 4 (by omega) (by omega)).2.2, bd_s (st 3 (by omega))]
    rw [ck_t (show mT (bC 17 (m + 41) (bcm src s0 4) X) (m + 24) = 11 from LA.1.1), ck_t (show mT (bC 17 (m + 41) (bcm src s0 4) X) (m + 41) = 11 from LB.1.1), show mR (bC 17 (m + 41) (bcm src s0 4) X) (m + 24) 6 = some (m + 24 + 5) from (LA.2.2.1 5 (by omega) (by omega)).2.2, show mR (bC 17 (m + 41) (bcm src s0 4) X) (m + 41) 6 = some (m + 41 + 5) from (LB.2.2.1 5 (by omega) (by omega)).2.2, bd_s (st 4 (by omega))]
    rw [ck_t (show mT (bC 17 (m + 41) (bcm src s0 5) X) (m + 24) = 11 from LA.1.1), ck_t (show mT (bC 17 (m + 41) (bcm src s0 5) X) (m + 41) = 11 from LB.1.1), show mR (bC 17 (m + 41) (bcm src s0 5) X) (m + 24) 7 = some (m + 24 + 6) from (LA.2.2.1 6 (by omega) (by omega)).2.2, show mR (bC 17 (m + 41) (bcm src s0 5) X) (m + 41) 7 = some (m + 41 + 6) from (LB.2.2.1 6 (by omega) (by omega)).2.2, bd_s (st 5 (by omega))]
    rw [ck_t (show mT (bC 17 (m + 41) (bcm src s0 6) X) (m + 24) = 11 from LA.1.1), ck_t (show mT (bC 17 (m + 41) (bcm src s0 6) X) (m + 41) = 11 from LB.1.1), show mR (bC 17 (m + 41) (bcm src s0 6) X) (m + 24) 8 = some (m + 24 + 7) from (LA.2.2.1 7 (by omega) (by omega)).2.2, show mR (bC 17 (m + 41) (bcm src s0 6) X) (m + 41) 8 = some (m + 41 + 7) from (LB.2.2.1 7 (by omega) (by omega)).2.2, bd_s (st 6 (by omega))]
    rw [ck_t (show mT (bC 17 (m + 41) (bcm src s0 7) X) (m + 24) = 11 from LA.1.1), ck_t (show mT (bC 17 (m + 41) (bcm src s0 7) X) (m + 41) = 11 from LB.1.1), show mR (bC 17 (m + 41) (bcm src s0 7) X) (m + 24) 9 = some (m + 24 + 8) from (LA.2.2.1 8 (by omega) (by omega)).2.2, show mR (bC 17 (m + 41) (bcm src s0 7) X) (m + 41) 9 = some (m + 41 + 8) from (LB.2.2.1 8 (by omega) (by omega)).2.2, bd_s (st 7 (by omega))]
    rw [ck_t (show mT (bC 17 (m + 41) (bcm src s0 8) X) (m + 24) = 11 from LA.1.1), ck_t (show mT (bC 17 (m + 41) (bcm src s0 8) X) (m + 41) = 11 from LB.1.1), show mR (bC 17 (m + 41) (bcm src s0 8) X) (m + 24) 10 = some (m + 24 + 9) from (LA.2.2.1 9 (by omega) (by omega)).2.2, show mR (bC 17 (m + 41) (bcm src s0 8) X) (m + 41) 10 = some (m + 41 + 9) from (LB.2.2.1 9 (by omega) (by omega)).2.2, bd_s (st 8 (by omega))]
    rw [ck_t (show mT (bC 17 (m + 41) (bcm src s0 9) X) (m + 24) = 11 from LA.1.1), ck_t (show mT (bC 17 (m + 41) (bcm src s0 9) X) (m + 41) = 11 from LB.1.1), show mR (bC 17 (m + 41) (bcm src s0 9) X) (m + 24) 11 = some (m + 24 + 10) from (LA.2.2.1 10 (by omega) (by omega)).2.2, show mR (bC 17 (m + 41) (bcm src s0 9) X) (m + 41) 11 = some (m + 41 + 10) from (LB.2.2.1 10 (by omega) (by omega)).2.2, bd_s (st 9 (by omega))]
    rw [ck_t (show mT (bC 17 (m + 41) (bcm src s0 10) X) (m + 24) = 11 from LA.1.1), ck_t (show mT (bC 17 (m + 41) (bcm src s0 10) X) (m + 41) = 11 from LB.1.1), show mR (bC 17 (m + 41) (bcm src s0 10) X) (m + 24) 12 = some (m + 24 + 11) from (LA.2.2.1 11 (by omega) (by omega)).2.2, show mR (bC 17 (m + 41) (bcm src s0 10) X) (m + 41) 12 = some (m + 41 + 11) from (LB.2.2.1 11 (by omega) (by omega)).2.2, bd_s (st 10 (by omega))]
    rw [ck_t (show mT (bC 17 (m + 41) (bcm src s0 11) X) (m + 24) = 11 from LA.1.1), ck_t (show mT (bC 17 (m + 41) (bcm src s0 11) X) (m + 41) = 11 from LB.1.1), show mR (bC 17 (m + 41) (bcm src s0 11) X) (m + 24) 13 = some (m + 24 + 12) from (LA.2.2.1 12 (by omega) (by omega)).2.2, show mR (bC 17 (m + 41) (bcm src s0 11) X) (m + 41) 13 = some (m + 41 + 12) from (LB.2.2.1 12 (by omega) (by omega)).2.2, bd_s (st 11 (by omega))]
  · rw [bcm_o 12 (.inl rfl), hs0, up2_ne (.inr (by decide)), up2_eq]
  · rw [bcm_o 12 (.inl rfl), hs0, up2_eq]
  · rw [bcm_v 12 j1 (by omega) hk, hsrc]
theorem RS_bec {A st st' : Nat → Nat → Int32} {F G np : Nat} (hF : F ≤ 8) (hG : G ≤ 8) (hp6 : np ≤ 6) (h0 : st' 0 0 = st 0 0 ∧ st' 0 1 = st 0 1) (h : ∀ j k, 1 ≤ j → j < 13 → k < lenS j → st' j k = st j k) (R : RS A st F G np) : RS A st' F G np := by
  have l1 : lenS 1 = 40 := rfl
  have l3 : lenS 3 = 64 := rfl
  have l8 : ∀ j, j ≠ 3 → 2 ≤ j → j < 10 → lenS j = 8 := fun j a b c => (by decide : ∀ j, j < 10 → j ≠ 3 → 2 ≤ j → lenS j = 8) j c a b
  have l6 : ∀ j, 10 ≤ j → j < 13 → lenS j = 6 := fun j b c => (by decide : ∀ j, j < 13 → 10 ≤ j → lenS j = 6) j c b
  obtain ⟨⟨b1, b2, b3, b4⟩, ⟨d1, d2, d3, d4, d5, d6⟩⟩ := R
  refine ⟨⟨?_, fun g k hg hk => ?_, fun g hg => ?_, fun f' hf' => ?_⟩, ⟨?_, fun i i1 i2 => ?_, fun g f' hg hf' => ?_, fun f' hf' => ?_, fun f' i1 i2 => ?_, fun p hp => ?_⟩⟩
  · rw [h0.1]; exact b1
  · rw [h 1 _ (by omega) (by omega) (by omega)]; exact b2 g k hg hk
  · rw [h 2 _ (by omega) (by omega) (by rw [l8 2 (by omega) (by omega) (by omega)]; omega)]; exact b3 g hg
  · have q := fun j (a : j ≠ 3) (b : 2 ≤ j) (c : j < 10) => h j f' (by omega) (by omega) (by rw [l8 j a b c]; omega)
    rw [q 4 (by omega) (by omega) (by omega), q 5 (by omega) (by omega) (by omega), q 6 (by omega) (by omega) (by omega), q 9 (by omega) (by omega) (by omega)]
    exact b4 f' hf'
  · rw [h0.2]; exact d1
  · rw [h 1 _ (by omega) (by omega) (by omega)]; exact d2 i i1 i2
  · rw [h 3 _ (by omega) (by omega) (by omega)]; exact d3 g f' hg hf'
  · have q := fun j (a : j ≠ 3) (b : 2 ≤ j) (c : j < 10) => h j f' (by omega) (by omega) (by rw [l8 j a b c]; omega)
    rw [q 7 (by omega) (by omega) (by omega), q 8 (by omega) (by omega) (by omega)]
    exact d4 f' hf'
  · have q := fun j (a : j ≠ 3) (b : 2 ≤ j) (c : j < 10) => h j f' (by omega) (by omega) (by rw [l8 j a b c]; omega)
    rw [q 5 (by omega) (by omega) (by omega), q 9 (by omega) (by omega) (by omega)]
    exact d5 f' i1 i2
  · have q := fun j (b : 10 ≤ j) (c : j < 13) => h j p (by omega) (by omega) (by rw [l6 j b c]; omega)
    rw [q 10 (by omega) (by omega), q 11 (by omega) (by omega), q 12 (by omega) (by omega)]
    exact d6 p hp
