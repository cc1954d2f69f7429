theorem sim_I {r a j : Nat} {A B : gMem} (h : sim r A B) (hq : a ≠ r ∨ j ≠ 6) : mI A a j = mI B a j := by
  have e1 : mI (at' r 0 A) a j = mI A a j := wI_o hq
  have e2 : mI (at' r 0 B) a j = mI B a j := wI_o hq
  rw [← e1, ← e2, h 0]
/-- a part, and what follows it -/
theorem CR_sq2 {Z : Nat → Nat} {r p o : Nat} {M0 M : gMem} {x : Option (Option (List (Nat × Nat)) × Nat)} {f : Nat → Option (Option (List (Nat × Nat)) × Nat)} {y : Option (Int32 × gMem)} {A B : gMem → Option (Int32 × gMem)} (h : CRl Z r p o M0 M x y) (hA : ∀ M1, CI r o M0 M1 → ∃ M2, A M1 = some ((0 : Int32), M2) ∧ CI r o M0 M2 ∧ mI M2 r 6 = mI M1 r 6) (hB : ∀ es M1 e, x = some (some es, e) → CI r o M0 M1 → mI M1 r 6 = nI e → sim r M1 (rnE Z r p o es M) → CRl Z r p o M0 M1 (f e) (B M1)) : CRl Z r p o M0 M (sq x f) (bd y fun r1 M1 => if r1 = 0 then A M1 else B M1) := by
  match x, h, hB with
  | none, _, _ => trivial
  | some (none, e), ⟨M1, h1, h2, h3⟩, _ =>
    obtain ⟨M2, a1, a2, a3⟩ := hA M1 h2
    exact ⟨M2, by rw [h1, bd_S, if_pos rfl, a1], a2, a3.trans h3⟩
  | some (some es, e), ⟨M1, h1, h2, h3, h4⟩, hB =>
    have key := hB es M1 e rfl h2 h3 h4
    rw [h1, bd_S, if_neg (by decide)]
    show CRl Z r p o M0 M (match f e with
      | none => none
      | some (none, k1) => some (none, k1)
      | some (some es1, k1) => some (some (es ++ es1), k1)) (B M1)
    match f e, key with
    | none, _ => trivial
    | some (none, e1), key => exact key
    | some (some es1, e1), ⟨M2, k1, k2, k3, k4⟩ => exact ⟨M2, k1, k2, k3, by rw [rnE_app]; exact sim_tr k4 (sim_rn h4 es1)⟩
/-- a taken word, and what follows it -/
theorem CR_t2 {Z g ps vs : Nat → Nat} {K r p o : Nat} {M0 : gMem} (W : CWd Z g ps vs K r p o M0) {k a : Nat} {M : gMem} {f : Nat → Option (Option (List (Nat × Nat)) × Nat)} {A B : gMem → Option (Int32 × gMem)} (C : CI r o M0 M) (h6 : mI M r 6 = nI k) (hk : k ≤ K) (ha : a < 42) (hA : ∀ M1, CI r o M0 M1 → ∃ M2, A M1 = some ((0 : Int32), M2) ∧ CI r o M0 M2 ∧ mI M2 r 6 = mI M1 r 6) (hB : ∀ M1, CI r o M0 M1 → mI M1 r 6 = nI (k + 1) → k + 1 ≤ K → M1 = at' r (k + 1) M → CRl Z r p o M0 M1 (f (k + 1)) (B M1)) : CRl Z r p o M0 M (sq (tk1 g a k) f) (bd (f_X6_take M r (some (Z a))) fun r1 M1 => if r1 = 0 then A M1 else B M1) := by
  have ho := (W_ho W).2
  rw [C_take W C h6 hk ha]
  unfold tk1
  by_cases c : g k = a
  · rw [if_pos c, if_pos c, bd_S, if_neg (by decide)]
    have key := hB _ (CI_at ho C) at_k (W.2.2.2.2.2.2 k hk (by omega)) rfl
    show CRl Z r p o M0 M (match f (k + 1) with
      | none => none
      | some (none, k1) => some (none, k1)
      | some (some es1, k1) => some (some ([] ++ es1), k1)) _
    match f (k + 1), key with
    | none, _ => trivial
    | some (none, e1), key => exact key
    | some (some es1, e1), ⟨M2, k1, k2, k3, k4⟩ => exact ⟨M2, k1, k2, k3, sim_tr k4 (sim_rn sim_at es1)⟩
  · rw [if_neg c, if_neg c, bd_S, if_pos rfl]
    obtain ⟨M2, a1, a2, a3⟩ := hA M C
    exact ⟨M2, a1, a2, a3.trans h6⟩
/-- an event at its token, what is written with it, and what follows it -/
theorem CR_ev {Z g ps vs : Nat → Nat} {K r p o : Nat} {M0 : gMem} (W : CWd Z g ps vs K r p o M0) {k c q : Nat} {M : gMem} {f : Nat → Option (Option (List (Nat × Nat)) × Nat)} {y : Option (Int32 × gMem)} {A B : gMem → Option (Int32 × gMem)} (N W1 : gMem → gMem) (C : CI r o M0 M) (h6 : mI M r 6 = nI k) (hk : k ≤ K) (hq : q < 42) (hy : y = if g k = q then some ((1 : Int32), at' r (k + 1) (N M)) else some ((0 : Int32), M)) (hst : stp1 Z r p o c k M = W1 (N M)) (hat : W1 (at' r (k + 1) (N M)) = at' r (k + 1) (W1 (N M))) (hA : ∀ M1, CI r o M0 M1 → ∃ M2, A M1 = some ((0 : Int32), M2) ∧ CI r o M0 M2 ∧ mI M2 r 6 = mI M1 r 6) (hN : CI r o M0 (N M)) (hB : ∀ X M1, CI r o M0 X → M1 = W1 X → CI r o M0 M1 → mI M1 r 6 = nI (k + 1) → k + 1 ≤ K → X = at' r (k + 1) (N M) → M1 = at' r (k + 1) (stp1 Z r p o c k M) → CRl Z r p o M0 M1 (f (k + 1)) (B X)) : CRl Z r p o M0 M (sq (if g k = q then em (c, k) (k + 1) else ft k) f) (bd y fun r1 M1 => if r1 = 0 then A M1 else B M1) := by
  have ho := (W_ho W).2
  rw [hy]
  by_cases d : g k = q
  · have key := hB (at' r (k + 1) (N M)) (at' r (k + 1) (stp1 Z r p o c k M)) (CI_at ho hN) (by rw [hat, hst]) (CI_at (k := k + 1) ho (CI_s1 W (p := p) (c := c) (i := k) C)) at_k (W.2.2.2.2.2.2 k hk (by omega)) rfl rfl
    rw [if_pos d, if_pos d, bd_S, if_neg (by decide)]
    show CRl Z r p o M0 M (match f (k + 1) with
      | none => none
      | some (none, k1) => some (none, k1)
      | some (some es1, k1) => some (some ([(c, k)] ++ es1), k1)) _
    match f (k + 1), key with
    | none, _ => trivial
    | some (none, e1), key => exact key
    | some (some es1, e1), ⟨M2, k1, k2, k3, k4⟩ =>
      refine ⟨M2, k1, k2, k3, sim_tr k4 ?_⟩
      rw [rnE_app]
      refine sim_rn ?_ es1
      show sim r _ (stp2 Z r p o (c, k) M)
      unfold stp2
      rw [kw_at h6]
      exact sim_at
  · rw [if_neg d, if_neg d, bd_S, if_pos rfl]
    obtain ⟨M2, a1, a2, a3⟩ := hA M C
    exact ⟨M2, a1, a2, a3.trans h6⟩
theorem lsn_at {r o j f : Nat} {M : gMem} (ho : o + 86 ≤ r) : lsn (at' r j M) o f = lsn M o f := by
  unfold lsn cn at'
  rw [wI_o (by omega)]
theorem lsn_st {Z : Nat → Nat} {r p o c i f : Nat} {M : gMem} (ho : o + 86 ≤ r) (hc : c < 51 ∨ 54 < c) : lsn (stp1 Z r p o c i M) o f = lsn M o f := by
  unfold lsn cn
  rw [st_cnt ho hc]
theorem wi_at {r a j k l : Nat} {M : gMem} (h : a ≠ r) (hl : l ≠ 6) : wI (at' r j M) a k (mI (at' r j M) r l) = at' r j (wI M a k (mI M r l)) := by
  unfold at'
  rw [wI_o (.inr hl), wI_cm (.inl (Ne.symm h))]
theorem cp_at {r a b j : Nat} {S : Nat → Nat → Bool} {M : gMem} (h : r ≠ a ∧ r ≠ a + 1 ∧ r ≠ b ∧ r ≠ b + 1) : cpS S a b (at' r j M) = at' r j (cpS S a b M) := by
  unfold at' cpS
  rw [wI_sI, sI_sI, wI_sI, sI_sI]
  congr 1
  funext c k
  show (if (c = a ∨ c = a + 1) ∧ S (c - a) k = true then up2 (mI M) r 6 (nI j) (b + (c - a)) k else up2 (mI M) r 6 (nI j) c k) = up2 (fun c k => if (c = a ∨ c = a + 1) ∧ S (c - a) k = true then mI M (b + (c - a)) k else mI M c k) r 6 (nI j) c k
  by_cases q : (c = a ∨ c = a + 1) ∧ S (c - a) k = true
  · rw [if_pos q, up2_ne (by omega), up2_ne (by omega), if_pos q]
  · rw [if_neg q]
    by_cases e : c = r ∧ k = 6
    · rw [e.1, e.2, up2_eq, up2_eq]
    · rw [up2_ne (by omega), up2_ne (by omega), if_neg q]
theorem ng_at {r o j : Nat} {M : gMem} (ho : o + 86 ≤ r) : ngM o (at' r j M) = at' r j (ngM o M) ∧ nfM o (at' r j M) = at' r j (nfM o M) ∧ npM o (at' r j M) = at' r j (npM o M) ∧ noM o (at' r j M) = at' r j (noM o M) := by
  have e1 : ∀ f, cn (at' r j M) o f = cn M o f := fun f => by
    unfold cn at'
    rw [wI_o (by omega)]
  have e2 : ∀ f v, wI (at' r j M) o f v = at' r j (wI M o f v) := fun f v => wI_cm (.inl (by omega))
  refine ⟨?_, ?_, ?_, ?_⟩
  · unfold ngM; rw [e1, e2, cp_at (by omega)]
  · unfold nfM; rw [e1, e2, cp_at (by omega)]
  · unfold npM; rw [e1, e2, cp_at (by omega)]
  · unfold noM; rw [e1, e2]
theorem cp_o {a b o j : Nat} {S : Nat → Nat → Bool} {M : gMem} (h : o ≠ a ∧ o ≠ a + 1) : mI (cpS S a b M) o j = mI M o j := if_neg (fun z => z.1.elim h.1 h.2)
theorem ng_l {r o : Nat} {M : gMem} (S : SF r o M) : lsn (ngM o M) o 2 = min (cn M o 2) 7 ∧ lsn (nfM o M) o 3 = min (cn M o 3) 7 ∧ lsn (npM o M) o 5 = min (cn M o 5) 5 ∧ lsn (noM o M) o 4 = min (cn M o 4) 23 := by
  obtain ⟨-, ⟨a, a1, a2⟩, ⟨b, b1, b2⟩, ⟨c, c1, c2⟩, ⟨d, d1, d2⟩, -⟩ := S
  have e1 := cn_e a2 (by omega)
  have e2 := cn_e b2 (by omega)
  have e3 := cn_e c2 (by omega)
  have e4 := cn_e d2 (by omega)
  have q : ∀ f n M1, n < 2 ^ 31 → mI M1 o f = nI n → lsn M1 o f = n - 1 := fun f n M1 h1 h2 => by unfold lsn; rw [cn_e h2 h1]
  refine ⟨?_, ?_, ?_, ?_⟩
  · rw [q 2 (min (a + 1) 8) _ (by omega) (by unfold ngM; rw [cp_o (by omega), wI_e, e1]), e1]; omega
  · rw [q 3 (min (b + 1) 8) _ (by omega) (by unfold nfM; rw [cp_o (by omega), wI_e, e2]), e2]; omega
  · rw [q 5 (min (d + 1) 6) _ (by omega) (by unfold npM; rw [cp_o (by omega), wI_e, e4]), e4]; omega
  · rw [q 4 (min (c + 1) 24) _ (by omega) (by unfold noM; rw [wI_e, e3]), e3]; omega
theorem sq_as {x : Option (Option (List (Nat × Nat)) × Nat)} {f h : Nat → Option (Option (List (Nat × Nat)) × Nat)} : sq (sq x f) h = sq x (fun k => sq (f k) h) := by
  match x with
  | none => rfl
  | some (none, k1) => rfl
  | some (some es, k1) =>
    show sq (match f k1 with
      | none => none
      | some (none, k1) => some (none, k1)
      | some (some es1, k1) => some (some (es ++ es1), k1)) h = (match sq (f k1) h with
      | none => none
      | some (none, k1) => some (none, k1)
      | some (some es1, k1) => some (some (es ++ es1), k1))
    match f k1 with
    | none => rfl
    | some (none, e) => rfl
    | some (some es1, e) =>
      show (match h e with
        | none => none
        | some (none, k1) => some (none, k1)
        | some (some es2, k1) => some (some ((es ++ es1) ++ es2), k1)) = (match (match h e with
        | none => none
        | some (none, k1) => some (none, k1)
        | some (some es2, k1) => some (some (es1 ++ es2), k1)) with
        | none => none
        | some (none, k1) => some (none, k1)
        | some (some es1, k1) => some (some (es ++ es1), k1))
      match h e with
      | none => rfl
      | some (none, e2) => rfl
      | some (some es2, e2) =>
        show some (some ((es ++ es1) ++ es2), e2) = some (some (es ++ (es1 ++ es2)), e2)
        rw [List.append_assoc]

