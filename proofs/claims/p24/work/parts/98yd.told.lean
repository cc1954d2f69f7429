/-! ## Pure: a new Told -/
def al (x n k : Nat) (M : gMem) : gMem := wR (nW M 20 n) x k (some (mN M))
theorem al_ok {x n k : Nat} {M : gMem} (h : mT M x = 12 ∧ x < mN M) : mT (al x n k M) x = 12 ∧ x < mN (al x n k M) :=
  ⟨(show (if x = mN M then 20 else mT M x) = 12 from by rw [if_neg (by omega)]; exact h.1), Nat.lt_succ_of_lt h.2⟩
theorem al_s {x n k : Nat} {M : gMem} {K : gMem → Option (Unit × gMem)} (h : mT M x = 12 ∧ x < mN M) : (lw (nW M 20 n) fun M1 => ck (mT M1 x = 12) <| lw (wR M1 x k (some (mN M))) K) = K (al x n k M) := by
  have e : mT (nW M 20 n) x = 12 := (show (if x = mN M then 20 else mT M x) = 12 from by rw [if_neg (by omega)]; exact h.1)
  rw [lw_S, ck_t e, lw_S]
  rfl
/-- rows of these lengths at these fields -/
def alL (x : Nat) : List (Nat × Nat) → gMem → gMem
  | [], M => M
  | y :: r, M => alL x r (al x y.1 y.2 M)
def tdL : List (Nat × Nat) := [(8, 1), (40, 2), (8, 5), (8, 6), (8, 7), (24, 9), (24, 10), (6, 12), (6, 13), (48, 14), (25, 17), (25, 18), (7, 19), (7, 20), (800, 21), (400, 23)]
theorem alL_f {x : Nat} : ∀ (l : List (Nat × Nat)) (M : gMem), x < mN M → mN (alL x l M) = mN M + l.length ∧ (∀ a, a < mN M → mT (alL x l M) a = mT M a ∧ mL (alL x l M) a = mL M a ∧ mI (alL x l M) a = mI M a ∧ mJ (alL x l M) a = mJ M a ∧ (a ≠ x → mR (alL x l M) a = mR M a)) ∧ (∀ j (h : j < l.length), mT (alL x l M) (mN M + j) = 20 ∧ mL (alL x l M) (mN M + j) = (l[j]).1 ∧ ∀ k, mI (alL x l M) (mN M + j) k = 0) ∧ (∀ k, (∀ y ∈ l, y.2 ≠ k) → mR (alL x l M) x k = mR M x k) ∧ ((∀ i j (hi : i < l.length) (hj : j < l.length), (l[i]).2 = (l[j]).2 → i = j) → ∀ j (h : j < l.length), mR (alL x l M) x (l[j]).2 = some (mN M + j))
  | [], M, hx => ⟨rfl, fun a _ => ⟨rfl, rfl, rfl, rfl, fun _ => rfl⟩, fun j h => absurd h (Nat.not_lt_zero _), fun k _ => rfl, fun _ j h => absurd h (Nat.not_lt_zero _)⟩
  | y :: r, M, hx => by
    have n1 : mN (al x y.1 y.2 M) = mN M + 1 := rfl
    obtain ⟨i1, i2, i3, i4, i5⟩ := alL_f (x := x) r (al x y.1 y.2 M) (by rw [n1]; omega)
    rw [n1] at i1 i2 i3 i5
    have eT : ∀ a, mT (al x y.1 y.2 M) a = if a = mN M then 20 else mT M a := fun _ => rfl
    have eL : ∀ a, mL (al x y.1 y.2 M) a = if a = mN M then y.1 else mL M a := fun _ => rfl
    have eI : ∀ a, mI (al x y.1 y.2 M) a = if a = mN M then (fun _ => 0) else mI M a := fun _ => rfl
    have eJ : ∀ a, mJ (al x y.1 y.2 M) a = if a = mN M then (fun _ => 0) else mJ M a := fun _ => rfl
    have eR : ∀ a k, mR (al x y.1 y.2 M) a k = if a = x ∧ k = y.2 then some (mN M) else (if a = mN M then (fun _ => none) else mR M a) k := fun _ _ => rfl
    show mN (alL x r (al x y.1 y.2 M)) = mN M + (y :: r).length ∧ (∀ a, a < mN M → mT (alL x r (al x y.1 y.2 M)) a = mT M a ∧ mL (alL x r (al x y.1 y.2 M)) a = mL M a ∧ mI (alL x r (al x y.1 y.2 M)) a = mI M a ∧ mJ (alL x r (al x y.1 y.2 M)) a = mJ M a ∧ (a ≠ x → mR (alL x r (al x y.1 y.2 M)) a = mR M a)) ∧ (∀ j (h : j < (y :: r).length), mT (alL x r (al x y.1 y.2 M)) (mN M + j) = 20 ∧ mL (alL x r (al x y.1 y.2 M)) (mN M + j) = ((y :: r)[j]).1 ∧ ∀ k, mI (alL x r (al x y.1 y.2 M)) (mN M + j) k = 0) ∧ (∀ k, (∀ z ∈ y :: r, z.2 ≠ k) → mR (alL x r (al x y.1 y.2 M)) x k = mR M x k) ∧ ((∀ i j (hi : i < (y :: r).length) (hj : j < (y :: r).length), ((y :: r)[i]).2 = ((y :: r)[j]).2 → i = j) → ∀ j (h : j < (y :: r).length), mR (alL x r (al x y.1 y.2 M)) x ((y :: r)[j]).2 = some (mN M + j))
    refine ⟨by rw [i1, List.length_cons]; omega, fun a ha => ?_, fun j hj => ?_, fun k hk => ?_, fun hd j hj => ?_⟩
    · obtain ⟨a1, a2, a3, a4, a5⟩ := i2 a (by omega)
      refine ⟨by rw [a1, eT, if_neg (by omega)], by rw [a2, eL, if_neg (by omega)], by rw [a3, eI, if_neg (by omega)], by rw [a4, eJ, if_neg (by omega)], fun z => ?_⟩
      rw [a5 z]
      funext k
      rw [eR, if_neg (fun w => z w.1), if_neg (by omega)]
    · match j, hj with
      | 0, _ =>
        obtain ⟨a1, a2, a3, -⟩ := i2 (mN M) (by omega)
        refine ⟨by rw [Nat.add_zero, a1, eT, if_pos rfl], by rw [Nat.add_zero, a2, eL, if_pos rfl]; rfl, fun k => by rw [Nat.add_zero, a3, eI, if_pos rfl]⟩
      | j + 1, hj =>
        have := i3 j (by rw [List.length_cons] at hj; omega)
        rw [show mN M + 1 + j = mN M + (j + 1) by omega] at this
        exact this
    · rw [i4 k (fun z hz => hk z (List.mem_cons_of_mem _ hz)), eR, if_neg (fun w => hk y List.mem_cons_self w.2.symm), if_neg (by omega)]
    · match j, hj with
      | 0, _ =>
        have hne : ∀ z ∈ r, z.2 ≠ y.2 := fun z hz e => by
          obtain ⟨i, hi, ei⟩ := List.getElem_of_mem hz
          have := hd (i + 1) 0 (by rw [List.length_cons]; omega) (by rw [List.length_cons]; omega) (by
            show (r[i]).2 = y.2
            rw [ei]; exact e)
          omega
        show mR (alL x r (al x y.1 y.2 M)) x y.2 = _
        rw [i4 y.2 hne, eR, if_pos ⟨rfl, rfl⟩]
        rfl
      | j + 1, hj =>
        have := i5 (fun a b ha hb e => by
          have := hd (a + 1) (b + 1) (by rw [List.length_cons]; omega) (by rw [List.length_cons]; omega) e
          omega) j (by rw [List.length_cons] at hj; omega)
        rw [show mN M + 1 + j = mN M + (j + 1) by omega] at this
        exact this
theorem tdL_1 : tdL.length = 16 := by decide
theorem tdL_2 : ∀ j, j < 16 → (tdL.getD j (0, 0)).1 = lenD (j + 1) := by decide
theorem tdL_3 : ∀ k, k < 25 → 0 < tdR k → tdR k ≤ 16 ∧ (tdL.getD (tdR k - 1) (0, 0)).2 = k := by decide
theorem tdL_4 : ∀ i, i < 16 → ∀ j, j < 16 → (tdL.getD i (0, 0)).2 = (tdL.getD j (0, 0)).2 → i = j := by decide
theorem tdL_5 {j : Nat} (h : j < tdL.length) : tdL[j] = tdL.getD j (0, 0) := by simp [List.getD, h]
