/-! ## Pure: one event more: signs of a sum, ends of tests and sums -/
theorem RV_s {Z vs : Nat → Nat} {o m F G k k' c i : Nat} {E : List (Nat × Nat)} {C C' D D' : gMem} (R : RV Z vs o m F G E k C D) (hk : k ≤ k') (c1 : mI C' (o + 5) 0 = nI (E.length + 1)) (c2 : ∀ s, s ≠ E.length → mI C' (o + 7) s = mI C (o + 7) s) (c3 : ∀ s, s ≠ E.length → mR C' (o + 6) s = mR C (o + 6) s) (c4 : mR C' (o + 6) E.length = some (Z c)) (d : ∀ j, j < k → mI D' (m + 6) j = mI D (m + 6) j) (e1 : (c = 2 ∨ c = 18) → i < k' ∧ ∃ j, j < G ∧ mI C' (o + 7) E.length = nI j ∧ mI D' (m + 6) i = nI j) (e2 : (c = 4 ∨ c = 16 ∨ c = 17 ∨ c = 19) → i < k' ∧ ∃ j, j < F ∧ mI C' (o + 7) E.length = nI j ∧ mI D' (m + 6) i = nI j) (e3 : c = 41 → mI C' (o + 7) E.length = nI (vs i)) : RV Z vs o m F G (E ++ [(c, i)]) k' C' D' := by
  have hl : (E ++ [(c, i)]).length = E.length + 1 := by rw [List.length_append]; rfl
  refine ⟨by rw [hl]; exact c1, fun s hs => ?_⟩
  by_cases z : s = E.length
  · subst z
    have eg : (E ++ [(c, i)])[E.length] = (c, i) := by
      rw [List.getElem_append_right (Nat.le_refl _)]
      simp
    rw [eg]
    exact ⟨c4, e1, e2, e3⟩
  · have hs2 : s < E.length := by omega
    rw [List.getElem_append_left hs2, c2 s z, c3 s z]
    obtain ⟨b1, b2, b3, b4⟩ := R.2 s hs2
    refine ⟨b1, fun z => ?_, fun z => ?_, b4⟩
    · obtain ⟨x1, j, x2, x3, x4⟩ := b2 z
      exact ⟨by omega, j, x2, x3, by rw [d _ x1]; exact x4⟩
    · obtain ⟨x1, j, x2, x3, x4⟩ := b3 z
      exact ⟨by omega, j, x2, x3, by rw [d _ x1]; exact x4⟩
theorem RP_x {vs : Nat → Nat} {r o t F G x x' : Nat} {L : List Nat} {C D : gMem} (h : RP vs r o t F G L x C D) (h1 : x ≠ 1) (h2 : 3 ≤ x → 3 ≤ x') (h3 : 1 ≤ x' → 1 ≤ x) : RP vs r o t F G L x' C D := by
  obtain ⟨⟨a1, a2, a3, a4, a5⟩, b, c⟩ := h
  refine ⟨⟨a1, a2, a3, a4, fun z => a5 (h3 z)⟩, fun q hq => ?_, c⟩
  obtain ⟨b1, b2, b3, ⟨n, n1, n2, n3⟩, b5⟩ := b q hq
  refine ⟨b1, ?_, b3, ⟨n, n1, .inl (by omega), n3⟩, b5⟩
  rcases b2 with h | ⟨h, h'⟩
  · exact .inl h
  · exact .inr ⟨h, by omega⟩
theorem RO_x {o t F G n x x' : Nat} {C D : gMem} (h : RO o t F G n x C D) (h2 : 2 ≤ x' → 2 ≤ x) (h3 : 3 ≤ x' → 3 ≤ x) (h1 : 1 ≤ x ↔ 1 ≤ x') : RO o t F G n x' C D := by
  obtain ⟨⟨a1, a2, a3, a4⟩, b⟩ := h
  exact ⟨⟨a1, a2, a3, by omega⟩, fun i hi => ⟨fun z => (b i hi).1 (by omega), fun z => (b i hi).2 (by omega)⟩⟩
/-- the state of a pact behind a sign -/
theorem RP_c {vs : Nat → Nat} {r o t F G x : Nat} {L : List Nat} {C D : gMem} (h : RP vs r o t F G L x C D) (h1 : x ≠ 1) : RP vs r o t F G L (if x = 2 then 4 else x) C D := by
  by_cases z : x = 2
  · rw [if_pos z]; exact RP_x h h1 (fun _ => by decide) (fun _ => by omega)
  · rw [if_neg z]; exact h
/-- a sign is added -/
theorem ad_x {Z : Nat → Nat} {o c n : Nat} {v : Int32} {Y : gMem} (h : mI Y (o + 5) 0 = nI n) (hn : n < 400) : (∀ a k, a ≠ o + 7 → (a ≠ o + 5 ∨ k ≠ 0) → mI (adM Z o c v Y) a k = mI Y a k) ∧ mI (adM Z o c v Y) (o + 5) 0 = nI (n + 1) ∧ mI (adM Z o c v Y) (o + 7) n = v ∧ (∀ s, s ≠ n → mI (adM Z o c v Y) (o + 7) s = mI Y (o + 7) s) ∧ mR (adM Z o c v Y) (o + 6) n = some (Z c) ∧ (∀ a s, (a ≠ o + 6 ∨ s ≠ n) → mR (adM Z o c v Y) a s = mR Y a s) ∧ mJ (adM Z o c v Y) = mJ Y := by
  have e : cn Y (o + 5) 0 = n := cn_e h (by omega)
  unfold adM
  rw [e, if_pos hn]
  refine ⟨fun a k h1 h2 => ?_, wI_e _ _ _ _, ?_, fun s hs => ?_, ?_, fun a s hs => ?_, rfl⟩
  · rw [wI_o h2, wI_o (.inl h1)]; rfl
  · rw [wI_o (.inl (by omega)), wI_e]
  · rw [wI_o (.inl (by omega)), wI_o (.inr hs)]; rfl
  · exact up2_eq _ _ _ _
  · exact up2_ne hs
/-- a sign without a token of its own -/
theorem N_op {Z g ps vs : Nat → Nat} {K r p o : Nat} {M0 : gMem} (W : CWd Z g ps vs K r p o M0) {m t : Nat} {D : gMem} {L1 L2 L3 : List Nat} {E : List (Nat × Nat)} {nO k : Nat} {q : Nat × Nat × Nat × Nat} {C : gMem} (CC : CI r o M0 C) (R : RA Z vs r o m t L1 L2 L3 E nO k q C D) {i : Nat} {c : Nat} (hE : E.length < 400) (hc : c = 15 ∨ c = 44 ∨ (20 ≤ c ∧ c ≤ 24) ∨ (31 ≤ c ∧ c ≤ 39)) (hb : q.2.2.2 ≠ 1) : RA Z vs r o m t L1 L2 L3 (E ++ [(c, i)]) nO k (q.1, q.2.1, q.2.2.1, if q.2.2.2 = 2 then 4 else q.2.2.2) (stp2 Z r p o (c, i) C) D := by
  obtain ⟨hp, ho⟩ := W_ho W
  obtain ⟨h7, RG1, RF1, RO1, RP1, RV1⟩ := R
  obtain ⟨v, es⟩ : ∃ v, stp2 Z r p o (c, i) C = adM Z o c v (at' r i C) := by
    show ∃ v, stp1 Z r p o c i (at' r i C) = _
    unfold stp1
    rw [if_neg (by omega), if_neg (by omega), if_neg (by omega)]
    by_cases z : c = 15 ∨ c = 44 ∨ c = 23 ∨ c = 24
    · rw [if_pos z]; exact ⟨_, rfl⟩
    · rw [if_neg z, if_pos (by omega)]; exact ⟨_, rfl⟩
  rw [es]
  clear es
  generalize hX : at' r i C = X at *; have ex : ∀ a k, (a ≠ r ∨ k ≠ 6) → mI X a k = mI C a k := (fun a k h => by rw [← hX]; exact wI_o h); have exJ : mJ X = mJ C := (by rw [← hX]; rfl); have exR : mR X = mR C := (by rw [← hX]; rfl)
  obtain ⟨y1, y2, y3, y4, y5, y6, y7⟩ := ad_x (Z := Z) (o := o) (c := c) (n := E.length) (v := v) (Y := X) ((ex _ _ (by omega)).trans RV1.1) hE
  generalize adM Z o c v X = Y at *
  have ag : ∀ a k, (a ≠ r ∨ (k ≠ 6 ∧ k ≠ 8)) → a ≠ o + 7 → (a ≠ o + 5 ∨ k ≠ 0) → mI Y a k = mI C a k := fun a k h1 h2 h3 => by rw [y1 a k h2 h3, ex a k (by omega)]
  have yJ : ∀ a s, mJ Y a s = mJ C a s := fun a s => by rw [y7, ← exJ]
  refine ⟨(ag r 7 (.inr (by decide)) (by omega) (.inl (by omega))).trans h7, ?_, ?_, ?_, ?_, ?_⟩
  · exact RG_fr RG1 (fun a k h => ag a k (by omega) (by omega) (by omega)) (fun j => yJ _ j) (fun a k h => rfl)
  · exact RF_fr RF1 (fun a k h => ag a k (by omega) (by omega) (by omega)) (fun j => yJ _ j) (fun a k h => rfl)
  · exact RO_fr RO1 (Nat.le_refl _) (Nat.le_refl _) (fun a k h => ag a k (by omega) (by omega) (by omega)) (fun a k h => rfl)
  · exact RP_c (RP_fr RP1 (Nat.le_refl _) (Nat.le_refl _) (fun a k h => ag a k (by omega) (by omega) (by omega)) (fun j => yJ _ j) (fun a k h => rfl)) hb
  · refine RV_s RV1 (Nat.le_refl _) y2 (fun s hs => ?_) (fun s hs => ?_) y5 (fun s hs => rfl) (fun h => by omega) (fun h => by omega) (fun h => by omega)
    · rw [y4 s hs, ex _ _ (by omega)]
    · rw [y6 _ _ (.inr hs), ← exR]
theorem N_end {Z g ps vs : Nat → Nat} {K r p o : Nat} {M0 : gMem} (W : CWd Z g ps vs K r p o M0) {m t : Nat} {D : gMem} {L1 L2 L3 : List Nat} {E : List (Nat × Nat)} {nO k : Nat} {q : Nat × Nat × Nat × Nat} {C : gMem} (CC : CI r o M0 C) (R : RA Z vs r o m t L1 L2 L3 E nO k q C D) {i : Nat} {a0 k0 : Nat} {w : Int32} {x2 x3 : Nat} (ha : (o + 50 ≤ a0 ∧ a0 < o + 74 ∧ k0 = 3) ∨ (o + 74 ≤ a0 ∧ a0 < o + 86 ∧ k0 = 2 ∧ (a0 - o) % 2 = 0)) (hO : ∀ C, RO o t L2.length L1.length nO q.2.2.1 C D → RO o t L2.length L1.length nO x2 C D) (hP : ∀ C, RP vs r o t L2.length L1.length L3 q.2.2.2 C D → RP vs r o t L2.length L1.length L3 x3 C D) : RA Z vs r o m t L1 L2 L3 E nO k (q.1, q.2.1, x2, x3) (wI (at' r i C) a0 k0 w) D := by
  obtain ⟨hp, ho⟩ := W_ho W
  obtain ⟨h7, RG1, RF1, RO1, RP1, RV1⟩ := R
  generalize hX : at' r i C = X at *; have ex : ∀ a k, (a ≠ r ∨ k ≠ 6) → mI X a k = mI C a k := (fun a k h => by rw [← hX]; exact wI_o h); have exJ : mJ X = mJ C := (by rw [← hX]; rfl); have exR : mR X = mR C := (by rw [← hX]; rfl)
  have ag : ∀ a k, (a ≠ r ∨ (k ≠ 6 ∧ k ≠ 8)) → (a ≠ a0 ∨ k ≠ k0) → mI (wI X a0 k0 w) a k = mI C a k := fun a k h1 h2 => by rw [wI_o h2, ex a k (by omega)]
  refine ⟨(ag r 7 (.inr (by decide)) (.inl (by omega))).trans h7, ?_, ?_, ?_, ?_, ?_⟩
  · exact RG_fr RG1 (fun a k h => ag a k (by omega) (by omega)) (fun j => by show mJ X _ j = _; rw [exJ]) (fun a k h => rfl)
  · exact RF_fr RF1 (fun a k h => ag a k (by omega) (by omega)) (fun j => by show mJ X _ j = _; rw [exJ]) (fun a k h => rfl)
  · exact hO _ (RO_fr RO1 (Nat.le_refl _) (Nat.le_refl _) (fun a k h => ag a k (by omega) (by omega)) (fun a k h => rfl))
  · exact hP _ (RP_fr RP1 (Nat.le_refl _) (Nat.le_refl _) (fun a k h => ag a k (by omega) (by omega)) (fun j => by show mJ X _ j = _; rw [exJ]) (fun a k h => rfl))
  · exact RV_fr RV1 (Nat.le_refl _) (Nat.le_refl _) (Nat.le_refl _) (fun a k h => ag a k (by omega) (by omega)) (fun j => by show mR X _ j = _; rw [exR]) (fun j hj => rfl)
/-- the end of a test, of a sum -/
theorem N_64 {Z g ps vs : Nat → Nat} {K r p o : Nat} {M0 : gMem} (W : CWd Z g ps vs K r p o M0) {m t : Nat} {D : gMem} {L1 L2 L3 : List Nat} {E : List (Nat × Nat)} {nO k : Nat} {q : Nat × Nat × Nat × Nat} {C : gMem} (CC : CI r o M0 C) (R : RA Z vs r o m t L1 L2 L3 E nO k q C D) {i : Nat} {c : Nat} (hc : c = 64 ∨ c = 66) (hb : q.2.2.1 = 3) : RA Z vs r o m t L1 L2 L3 E nO k (q.1, q.2.1, 4, q.2.2.2) (stp2 Z r p o (c, i) C) D := by
  have CX := CI_at (k := i) (W_ho W).2 CC
  have n4 := (SF_n CX.2.2.2.2).2.2.1
  have es : stp2 Z r p o (c, i) C = wI (at' r i C) (o + (50 + lsn (at' r i C) o 4)) 3 (mI (at' r i C) (o + 5) 0) := by
    show stp1 Z r p o c i (at' r i C) = _
    rcases hc with h | h <;> subst h <;> rfl
  rw [es]
  exact N_end W CC R (.inl (by omega)) (fun C h => RO_x h (fun _ => by omega) (fun _ => by omega) (by omega)) (fun C h => h)
theorem N_65 {Z g ps vs : Nat → Nat} {K r p o : Nat} {M0 : gMem} (W : CWd Z g ps vs K r p o M0) {m t : Nat} {D : gMem} {L1 L2 L3 : List Nat} {E : List (Nat × Nat)} {nO k : Nat} {q : Nat × Nat × Nat × Nat} {C : gMem} (CC : CI r o M0 C) (R : RA Z vs r o m t L1 L2 L3 E nO k q C D) {i : Nat} (hb : q.2.2.2 = 3) : RA Z vs r o m t L1 L2 L3 E nO k (q.1, q.2.1, q.2.2.1, 4) (stp2 Z r p o (65, i) C) D := by
  have CX := CI_at (k := i) (W_ho W).2 CC
  have n5 := (SF_n CX.2.2.2.2).2.2.2
  have es : stp2 Z r p o (65, i) C = wI (at' r i C) (o + (74 + 2 * lsn (at' r i C) o 5)) 2 (mI (at' r i C) (o + 5) 0) := rfl
  rw [es]
  exact N_end W CC R (.inr (by omega)) (fun C h => h) (fun C h => RP_x h (by omega) (fun _ => by decide) (fun _ => by omega))

