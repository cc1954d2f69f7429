theorem sim_I {r a j : Nat} {A B : gMem} (h : sim r A B) (hq : a ≠ r ∨ j ≠ 6) : mI A a j = mI B a j := sorry

/-- a part, and what follows it -/
theorem CR_sq2 {Z : Nat → Nat} {r p o : Nat} {M0 M : gMem} {x : Option (Option (List (Nat × Nat)) × Nat)} {f : Nat → Option (Option (List (Nat × Nat)) × Nat)} {y : Option (Int32 × gMem)} {A B : gMem → Option (Int32 × gMem)} (h : CRl Z r p o M0 M x y) (hA : ∀ M1, CI r o M0 M1 → ∃ M2, A M1 = some ((0 : Int32), M2) ∧ CI r o M0 M2 ∧ mI M2 r 6 = mI M1 r 6) (hB : ∀ es M1 e, x = some (some es, e) → CI r o M0 M1 → mI M1 r 6 = nI e → sim r M1 (rnE Z r p o es M) → CRl Z r p o M0 M1 (f e) (B M1)) : CRl Z r p o M0 M (sq x f) (bd y fun r1 M1 => if r1 = 0 then A M1 else B M1) := sorry

/-- a taken word, and what follows it -/
theorem CR_t2 {Z g ps vs : Nat → Nat} {K r p o : Nat} {M0 : gMem} (W : CWd Z g ps vs K r p o M0) {k a : Nat} {M : gMem} {f : Nat → Option (Option (List (Nat × Nat)) × Nat)} {A B : gMem → Option (Int32 × gMem)} (C : CI r o M0 M) (h6 : mI M r 6 = nI k) (hk : k ≤ K) (ha : a < 42) (hA : ∀ M1, CI r o M0 M1 → ∃ M2, A M1 = some ((0 : Int32), M2) ∧ CI r o M0 M2 ∧ mI M2 r 6 = mI M1 r 6) (hB : ∀ M1, CI r o M0 M1 → mI M1 r 6 = nI (k + 1) → k + 1 ≤ K → M1 = at' r (k + 1) M → CRl Z r p o M0 M1 (f (k + 1)) (B M1)) : CRl Z r p o M0 M (sq (tk1 g a k) f) (bd (f_X6_take M r (some (Z a))) fun r1 M1 => if r1 = 0 then A M1 else B M1) := sorry

/-- an event at its token, what is written with it, and what follows it -/
theorem CR_ev {Z g ps vs : Nat → Nat} {K r p o : Nat} {M0 : gMem} (W : CWd Z g ps vs K r p o M0) {k c q : Nat} {M : gMem} {f : Nat → Option (Option (List (Nat × Nat)) × Nat)} {y : Option (Int32 × gMem)} {A B : gMem → Option (Int32 × gMem)} (N W1 : gMem → gMem) (C : CI r o M0 M) (h6 : mI M r 6 = nI k) (hk : k ≤ K) (hq : q < 42) (hy : y = if g k = q then some ((1 : Int32), at' r (k + 1) (N M)) else some ((0 : Int32), M)) (hst : stp1 Z r p o c k M = W1 (N M)) (hat : W1 (at' r (k + 1) (N M)) = at' r (k + 1) (W1 (N M))) (hA : ∀ M1, CI r o M0 M1 → ∃ M2, A M1 = some ((0 : Int32), M2) ∧ CI r o M0 M2 ∧ mI M2 r 6 = mI M1 r 6) (hN : CI r o M0 (N M)) (hB : ∀ X M1, CI r o M0 X → M1 = W1 X → CI r o M0 M1 → mI M1 r 6 = nI (k + 1) → k + 1 ≤ K → X = at' r (k + 1) (N M) → M1 = at' r (k + 1) (stp1 Z r p o c k M) → CRl Z r p o M0 M1 (f (k + 1)) (B X)) : CRl Z r p o M0 M (sq (if g k = q then em (c, k) (k + 1) else ft k) f) (bd y fun r1 M1 => if r1 = 0 then A M1 else B M1) := sorry

theorem lsn_at {r o j f : Nat} {M : gMem} (ho : o + 86 ≤ r) : lsn (at' r j M) o f = lsn M o f := sorry

theorem lsn_st {Z : Nat → Nat} {r p o c i f : Nat} {M : gMem} (ho : o + 86 ≤ r) (hc : c < 51 ∨ 54 < c) : lsn (stp1 Z r p o c i M) o f = lsn M o f := sorry

theorem wi_at {r a j k l : Nat} {M : gMem} (h : a ≠ r) (hl : l ≠ 6) : wI (at' r j M) a k (mI (at' r j M) r l) = at' r j (wI M a k (mI M r l)) := sorry

theorem cp_at {r a b j : Nat} {S : Nat → Nat → Bool} {M : gMem} (h : r ≠ a ∧ r ≠ a + 1 ∧ r ≠ b ∧ r ≠ b + 1) : cpS S a b (at' r j M) = at' r j (cpS S a b M) := sorry

theorem ng_at {r o j : Nat} {M : gMem} (ho : o + 86 ≤ r) : ngM o (at' r j M) = at' r j (ngM o M) ∧ nfM o (at' r j M) = at' r j (nfM o M) ∧ npM o (at' r j M) = at' r j (npM o M) ∧ noM o (at' r j M) = at' r j (noM o M) := sorry

theorem cp_o {a b o j : Nat} {S : Nat → Nat → Bool} {M : gMem} (h : o ≠ a ∧ o ≠ a + 1) : mI (cpS S a b M) o j = mI M o j := sorry

theorem ng_l {r o : Nat} {M : gMem} (S : SF r o M) : lsn (ngM o M) o 2 = min (cn M o 2) 7 ∧ lsn (nfM o M) o 3 = min (cn M o 3) 7 ∧ lsn (npM o M) o 5 = min (cn M o 5) 5 ∧ lsn (noM o M) o 4 = min (cn M o 4) 23 := sorry

theorem sq_as {x : Option (Option (List (Nat × Nat)) × Nat)} {f h : Nat → Option (Option (List (Nat × Nat)) × Nat)} : sq (sq x f) h = sq x (fun k => sq (f k) h) := sorry
