/-! ## Pure: cheat -/
theorem sumN_ext {f : Nat → Int32} {n : Nat} : ∀ k, n ≤ k → (∀ i, n ≤ i → i < k → f i = 0) → sumN f k = sumN f n
  | 0, h, _ => by rw [show n = 0 by omega]
  | k + 1, h, z => by
    by_cases e : n = k + 1
    · rw [e]
    · rw [sumN, z k (by omega) (by omega), sumN_ext k (by omega) fun i i1 i2 => z i i1 (by omega)]
      exact Int32.add_zero _
theorem RS_chs {A st : Nat → Nat → Int32} {F G np : Nat} (hF : F ≤ 8) (R : RS A st F G np) : sumN (st 9) (lenS 9) = sumN (fun i => if A (34 + 2 * i) 9 = nI 0 then (0 : Int32) else 1) F := by
  rw [show lenS 9 = 8 from rfl, sumN_ext (n := F) 8 hF fun i i1 i2 => (R.2.2.2.2.2.1 i i1 i2).2]
  refine sumN_c F fun i hi => ?_
  obtain ⟨-, -, -, r4, r5⟩ := R.1.2.2.2 i hi
  rw [r4]
  rcases r5 with e | e
  · rw [e, if_pos (show (0 : Int32) = nI 0 from rfl)]
  · rw [e, if_neg (show ¬ (1 : Int32) = nI 0 by decide)]
