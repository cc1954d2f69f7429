/-! ## Pure: where the sums stand: any event -/
def RT (ef : Nat → Nat × Nat) (vs : Nat → Nat) (o t nO nP n x y h : Nat) (C P : gMem) : Prop :=
  (mI P t 15 = nI nO ∧ mI P t 16 = nI nP) ∧ T3 ef vs t n P ∧ T1 (fun s => (ef s).1) o t nO n x h C P ∧ T2 (fun s => (ef s).1) o t nP n y h C P
def RTp (ef : Nat → Nat × Nat) (vs : Nat → Nat) (o t : Nat) (pre : List (Nat × Nat)) (q : Nat × Nat × Nat × Nat) (h : Nat) (C P : gMem) : Prop := RT ef vs o t (nc 54 pre) (tks 3 pre).length (ceL pre).length q.2.2.1 q.2.2.2 h C P
theorem aA_q {c : Nat} {q q1 : Nat × Nat × Nat × Nat} (hA : aA c q = some q1) (h45 : 45 ≤ c) : (c ≠ 54 → (c ≠ 60 ∧ c ≠ 61) → (c ≠ 64 ∧ c ≠ 66) → q1.2.2.1 = q.2.2.1) ∧ (c ≠ 53 → (c ≠ 62 ∧ c ≠ 63) → c ≠ 65 → q1.2.2.2 = q.2.2.2) := sorry

theorem RT_step {Z g ps vs : Nat → Nat} {K r p o : Nat} {M0 : gMem} (W : CWd Z g ps vs K r p o M0) {ef : Nat → Nat × Nat} {m t : Nat} {D D' P : gMem} {pre : List (Nat × Nat)} {k k' i c h h1 : Nat} {q q1 : Nat × Nat × Nat × Nat} {C : gMem} (ht : m + 7 ≤ t) (CC : CI r o M0 C) (R : RAp Z vs r o m t pre k q C D) (R' : RAp Z vs r o m t (pre ++ [(c, i)]) k' q1 (stp2 Z r p o (c, i) C) D') (hA : aA c q = some q1) (hH : hC c h = some h1) (he : c < 45 → ef (ceL pre).length = (c, i) ∧ (ceL pre).length < 400) (T : RTp ef vs o t pre q h C P) : RTp ef vs o t (pre ++ [(c, i)]) q1 h1 (stp2 Z r p o (c, i) C) (mst1 vs m t c i P) := sorry
