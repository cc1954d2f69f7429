/-! ## Pure: one event more: the numbers of a fisher -/
theorem S_57 {Z g ps vs : Nat → Nat} {K r p o : Nat} {M0 : gMem} (W : CWd Z g ps vs K r p o M0) {ro : Nat → Nat} {m t : Nat} {D0 D : gMem} (W2 : P2W g vs ro K m t D0) (DD : M2I m t D0 D) {L1 L2 L3 : List Nat} {E : List (Nat × Nat)} {nO k : Nat} {q : Nat × Nat × Nat × Nat} {C : gMem} (CC : CI r o M0 C) (R : RA Z vs r o m t L1 L2 L3 E nO k q C D) {i : Nat} (hi : i ≤ K) (hk : k ≤ i) (hv : vs i < 2 ^ 62) (hr : ro i = 7) (hb : q.2.1 = 1) : OUT Z vs ps r o m t i L1 L2 L3 E nO (i + 1) (q.1, 2, q.2.2) D0 (stp2 Z r p o (57, i) C) D := by
  have ht := W2.1.1.2.2; obtain ⟨hp, ho⟩ := W_ho W; have CX := CI_at (k := i) ho CC; have x7 : mI (at' r i C) r 7 = 0 := (wI_o (.inr (by decide))).trans R.1
  obtain ⟨h7, RG1, ⟨⟨a1, a2, a3, a4, a5⟩, b, c⟩, RO1, RP1, RV1⟩ := R
  have hg := g_41 W2 hi (by omega)
  have hv6 := W2.2.2.2.2.2.1 i hi hg
  obtain ⟨n, hn⟩ : ∃ n, L2.length = n + 1 := ⟨L2.length - 1, by have := a5 (by omega); omega⟩
  have n8 : n < 8 := by have := a1.2.1; omega
  have a3' := a3
  rw [hn] at a3'
  have el : lsn (at' r i C) o 3 = n := by
    unfold lsn
    rw [show cn (at' r i C) o 3 = L2.length from cn_e ((wI_o (.inl (by omega))).trans a2) (by omega)]
    omega
  have es : stp2 Z r p o (57, i) C = wI (wI (nbM r p 1 5 i (at' r i C)) (o + (34 + 2 * lsn (at' r i C) o 3)) 0 (mI (nbM r p 1 5 i (at' r i C)) r 8)) (o + (34 + 2 * lsn (at' r i C) o 3)) 1 (mI (nbM r p 1 5 i (at' r i C)) r 8) := rfl
  have E1 := E_7 W2 DD hi hr a3' n8
  rw [es, el]
  have DM : M2I m t D0 (wI D (t + 3) n (nI (vs i))) := M2_w ht DD (.inr (.inr (.inl (by omega))))
  by_cases cr : 1 ≤ vs i ∧ vs i ≤ 5
  · rw [if_pos cr] at E1
    refine .inr ⟨_, E1, DM, ?_⟩
    rw [show nbM r p 1 5 i (at' r i C) = wI (at' r i C) r 8 (nI (vs i)) from nb_f (lo := 1) (hh := 5) W CX hi hg hv6 (by decide) (by decide) cr, wI_e]
    generalize hX : at' r i C = X at *; have ex : ∀ a k, (a ≠ r ∨ k ≠ 6) → mI X a k = mI C a k := (fun a k h => by rw [← hX]; exact wI_o h); have exJ : mJ X = mJ C := (by rw [← hX]; rfl); have exR : mR X = mR C := (by rw [← hX]; rfl)
    have ag : ∀ a k, (a ≠ r ∨ (k ≠ 6 ∧ k ≠ 8)) → (a ≠ o + (34 + 2 * n) ∨ (k ≠ 0 ∧ k ≠ 1)) → mI (wI (wI (wI X r 8 (nI (vs i))) (o + (34 + 2 * n)) 0 (nI (vs i))) (o + (34 + 2 * n)) 1 (nI (vs i))) a k = mI C a k := fun a k h1 h2 => by rw [wI_o (by omega), wI_o (by omega), wI_o (by omega), ex a k (by omega)]
    have ad : ∀ a k, (a ≠ t + 3 ∨ k ≠ n) → mI (wI D (t + 3) n (nI (vs i))) a k = mI D a k := fun a k h => wI_o h
    refine ⟨(ag r 7 (.inr (by decide)) (.inl (by omega))).trans h7, ?_, ?_, ?_, ?_, ?_⟩
    · exact RG_fr RG1 (fun a k h => ag a k (by omega) (by omega)) (fun j => by show mJ X _ j = _; rw [exJ]) (fun a k h => ad a k (by omega))
    · refine ⟨⟨NL_fr a1 (ag _ _ (by omega) (by omega)) (fun j => by show mJ X _ j = _; rw [exJ]), (ag _ _ (by omega) (by omega)).trans a2, (ad _ _ (by omega)).trans a3, (by show 2 ≤ 4; decide), fun z => by omega⟩, fun f' hf' => ?_, fun f' hf' => ?_⟩
      · obtain ⟨b1, b2, b3, b4, b5, b6, b7, b8, b9⟩ := b f' hf'
        refine ⟨?_, ?_, ?_, ?_, fun k k1 k2 => by rw [ag _ _ (by omega) (by omega)]; exact b5 k k1 k2, fun k k1 => by rw [ag _ _ (by omega) (by omega)]; exact b6 k k1, ?_, ?_, ?_⟩
        · by_cases z : f' = n
          · rw [z, wI_o (.inr (by decide)), wI_e, wI_e]
          · rw [ag _ _ (by omega) (by omega), ad _ _ (by omega)]; exact b1
        · by_cases z : f' = n
          · rw [z, wI_e, wI_e]
          · rw [ag _ _ (by omega) (by omega), ad _ _ (by omega)]; exact b2
        · rw [ag _ _ (by omega) (by omega), ad _ _ (by omega)]; exact b3
        · rw [ag _ _ (by omega) (by omega), ad _ _ (by omega)]; exact b4
        · by_cases z : f' = n
          · rw [z, wI_e]
            exact ⟨vs i, cr.2, .inl cr.1, rfl⟩
          · rw [ad _ _ (by omega)]
            obtain ⟨n', n1, n2, n3⟩ := b7
            exact ⟨n', n1, .inl (by omega), n3⟩
        · rw [ad _ _ (by omega)]
          exact b8
        · rw [ad _ _ (by omega)]
          exact b9
      · rw [ad _ _ (by omega), ad _ _ (by omega), ad _ _ (by omega)]
        exact c f' hf'
    · exact RO_fr RO1 (Nat.le_refl _) (Nat.le_refl _) (fun a k h => ag a k (by omega) (by omega)) (fun a k h => ad a k (by omega))
    · exact RP_fr RP1 (Nat.le_refl _) (Nat.le_refl _) (fun a k h => ag a k (by omega) (by omega)) (fun j => by show mJ X _ j = _; rw [exJ]) (fun a k h => ad a k (by omega))
    · exact RV_fr RV1 (Nat.le_refl _) (Nat.le_refl _) (by omega) (fun a k h => ag a k (by omega) (by omega)) (fun j => by show mR X _ j = _; rw [exR]) (fun j hj => ad _ _ (by omega))
  · rw [if_neg cr] at E1
    exact .inl ⟨5, _, by decide, by decide, E1, DM, ER_k (by decide) (by decide) (show ER r 5 i ps (nbM r p 1 5 i (at' r i C)) from nb_n (lo := 1) (hh := 5) W CX hi hg hv6 (by decide) (by decide) cr x7) (kp_t (kp_w (.inl (by omega))) (kp_w (.inl (by omega))))⟩
theorem S_58 {Z g ps vs : Nat → Nat} {K r p o : Nat} {M0 : gMem} (W : CWd Z g ps vs K r p o M0) {ro : Nat → Nat} {m t : Nat} {D0 D : gMem} (W2 : P2W g vs ro K m t D0) (DD : M2I m t D0 D) {L1 L2 L3 : List Nat} {E : List (Nat × Nat)} {nO k : Nat} {q : Nat × Nat × Nat × Nat} {C : gMem} (CC : CI r o M0 C) (R : RA Z vs r o m t L1 L2 L3 E nO k q C D) {i : Nat} (hi : i ≤ K) (hk : k ≤ i) (hv : vs i < 2 ^ 62) (hr : ro i = 8) (hb : q.2.1 = 2) : OUT Z vs ps r o m t i L1 L2 L3 E nO (i + 1) (q.1, 3, q.2.2) D0 (stp2 Z r p o (58, i) C) D := by
  have ht := W2.1.1.2.2; obtain ⟨hp, ho⟩ := W_ho W; have CX := CI_at (k := i) ho CC; have x7 : mI (at' r i C) r 7 = 0 := (wI_o (.inr (by decide))).trans R.1
  obtain ⟨h7, RG1, ⟨⟨a1, a2, a3, a4, a5⟩, b, c⟩, RO1, RP1, RV1⟩ := R
  have hg := g_41 W2 hi (by omega)
  have hv6 := W2.2.2.2.2.2.1 i hi hg
  obtain ⟨n, hn⟩ : ∃ n, L2.length = n + 1 := ⟨L2.length - 1, by have := a5 (by omega); omega⟩
  have n8 : n < 8 := by have := a1.2.1; omega
  have a3' := a3
  rw [hn] at a3'
  have el : lsn (at' r i C) o 3 = n := by
    unfold lsn
    rw [show cn (at' r i C) o 3 = L2.length from cn_e ((wI_o (.inl (by omega))).trans a2) (by omega)]
    omega
  have es : stp2 Z r p o (58, i) C = wI (nbM r p 1 99 i (at' r i C)) (o + (34 + 2 * lsn (at' r i C) o 3)) 2 (mI (nbM r p 1 99 i (at' r i C)) r 8) := rfl
  have E1 := E_8 W2 DD hi hr a3' n8
  rw [es, el]
  have DM : M2I m t D0 (wI D (t + 4) n (nI (vs i))) := M2_w ht DD (.inr (.inr (.inl (by omega))))
  by_cases cr : 1 ≤ vs i ∧ vs i ≤ 99
  · rw [if_pos cr] at E1
    refine .inr ⟨_, E1, DM, ?_⟩
    rw [show nbM r p 1 99 i (at' r i C) = wI (at' r i C) r 8 (nI (vs i)) from nb_f (lo := 1) (hh := 99) W CX hi hg hv6 (by decide) (by decide) cr, wI_e]
    generalize hX : at' r i C = X at *; have ex : ∀ a k, (a ≠ r ∨ k ≠ 6) → mI X a k = mI C a k := (fun a k h => by rw [← hX]; exact wI_o h); have exJ : mJ X = mJ C := (by rw [← hX]; rfl); have exR : mR X = mR C := (by rw [← hX]; rfl)
    have ag : ∀ a k, (a ≠ r ∨ (k ≠ 6 ∧ k ≠ 8)) → (a ≠ o + (34 + 2 * n) ∨ k ≠ 2) → mI (wI (wI X r 8 (nI (vs i))) (o + (34 + 2 * n)) 2 (nI (vs i))) a k = mI C a k := fun a k h1 h2 => by rw [wI_o (by omega), wI_o (by omega), ex a k (by omega)]
    have ad : ∀ a k, (a ≠ t + 4 ∨ k ≠ n) → mI (wI D (t + 4) n (nI (vs i))) a k = mI D a k := fun a k h => wI_o h
    refine ⟨(ag r 7 (.inr (by decide)) (.inl (by omega))).trans h7, ?_, ?_, ?_, ?_, ?_⟩
    · exact RG_fr RG1 (fun a k h => ag a k (by omega) (by omega)) (fun j => by show mJ X _ j = _; rw [exJ]) (fun a k h => ad a k (by omega))
    · refine ⟨⟨NL_fr a1 (ag _ _ (by omega) (by omega)) (fun j => by show mJ X _ j = _; rw [exJ]), (ag _ _ (by omega) (by omega)).trans a2, (ad _ _ (by omega)).trans a3, (by show 3 ≤ 4; decide), fun z => by omega⟩, fun f' hf' => ?_, fun f' hf' => ?_⟩
      · obtain ⟨b1, b2, b3, b4, b5, b6, b7, b8, b9⟩ := b f' hf'
        refine ⟨?_, ?_, ?_, ?_, fun k k1 k2 => by rw [ag _ _ (by omega) (by omega)]; exact b5 k k1 k2, fun k k1 => by rw [ag _ _ (by omega) (by omega)]; exact b6 k k1, ?_, ?_, ?_⟩
        · rw [ag _ _ (by omega) (by omega), ad _ _ (by omega)]; exact b1
        · rw [ag _ _ (by omega) (by omega), ad _ _ (by omega)]; exact b2
        · by_cases z : f' = n
          · rw [z, wI_e, wI_e]
          · rw [ag _ _ (by omega) (by omega), ad _ _ (by omega)]; exact b3
        · rw [ag _ _ (by omega) (by omega), ad _ _ (by omega)]; exact b4
        · rw [ad _ _ (by omega)]
          obtain ⟨n', n1, n2, n3⟩ := b7
          exact ⟨n', n1, .inl (by omega), n3⟩
        · by_cases z : f' = n
          · rw [z, wI_e]
            exact ⟨vs i, cr.2, rfl⟩
          · rw [ad _ _ (by omega)]
            exact b8
        · rw [ad _ _ (by omega)]
          exact b9
      · rw [ad _ _ (by omega), ad _ _ (by omega), ad _ _ (by omega)]
        exact c f' hf'
    · exact RO_fr RO1 (Nat.le_refl _) (Nat.le_refl _) (fun a k h => ag a k (by omega) (by omega)) (fun a k h => ad a k (by omega))
    · exact RP_fr RP1 (Nat.le_refl _) (Nat.le_refl _) (fun a k h => ag a k (by omega) (by omega)) (fun j => by show mJ X _ j = _; rw [exJ]) (fun a k h => ad a k (by omega))
    · exact RV_fr RV1 (Nat.le_refl _) (Nat.le_refl _) (by omega) (fun a k h => ag a k (by omega) (by omega)) (fun j => by show mR X _ j = _; rw [exR]) (fun j hj => ad _ _ (by omega))
  · rw [if_neg cr] at E1
    exact .inl ⟨5, _, by decide, by decide, E1, DM, ER_k (by decide) (by decide) (show ER r 5 i ps (nbM r p 1 99 i (at' r i C)) from nb_n (lo := 1) (hh := 99) W CX hi hg hv6 (by decide) (by decide) cr x7) (kp_w (.inl (by omega)))⟩
theorem S_59 {Z g ps vs : Nat → Nat} {K r p o : Nat} {M0 : gMem} (W : CWd Z g ps vs K r p o M0) {ro : Nat → Nat} {m t : Nat} {D0 D : gMem} (W2 : P2W g vs ro K m t D0) (DD : M2I m t D0 D) {L1 L2 L3 : List Nat} {E : List (Nat × Nat)} {nO k : Nat} {q : Nat × Nat × Nat × Nat} {C : gMem} (CC : CI r o M0 C) (R : RA Z vs r o m t L1 L2 L3 E nO k q C D) {i : Nat} (hi : i ≤ K) (hk : k ≤ i) (hv : vs i < 2 ^ 62) (hr : ro i = 9) (hb : q.2.1 = 3) : OUT Z vs ps r o m t i L1 L2 L3 E nO (i + 1) (q.1, 4, q.2.2) D0 (stp2 Z r p o (59, i) C) D := by
  have ht := W2.1.1.2.2; obtain ⟨hp, ho⟩ := W_ho W; have CX := CI_at (k := i) ho CC; have x7 : mI (at' r i C) r 7 = 0 := (wI_o (.inr (by decide))).trans R.1
  obtain ⟨h7, RG1, ⟨⟨a1, a2, a3, a4, a5⟩, b, c⟩, RO1, RP1, RV1⟩ := R
  have hg := g_41 W2 hi (by omega)
  have hv6 := W2.2.2.2.2.2.1 i hi hg
  obtain ⟨n, hn⟩ : ∃ n, L2.length = n + 1 := ⟨L2.length - 1, by have := a5 (by omega); omega⟩
  have n8 : n < 8 := by have := a1.2.1; omega
  have a3' := a3
  rw [hn] at a3'
  have el : lsn (at' r i C) o 3 = n := by
    unfold lsn
    rw [show cn (at' r i C) o 3 = L2.length from cn_e ((wI_o (.inl (by omega))).trans a2) (by omega)]
    omega
  have es : stp2 Z r p o (59, i) C = wI (nbM r p 1 40 i (at' r i C)) (o + (34 + 2 * lsn (at' r i C) o 3)) 3 (mI (nbM r p 1 40 i (at' r i C)) r 8) := rfl
  have E1 := E_9 W2 DD hi hr a3' n8
  rw [es, el]
  have DM : M2I m t D0 (wI D (t + 5) n (nI (vs i))) := M2_w ht DD (.inr (.inr (.inl (by omega))))
  by_cases cr : 1 ≤ vs i ∧ vs i ≤ 40
  · rw [if_pos cr] at E1
    refine .inr ⟨_, E1, DM, ?_⟩
    rw [show nbM r p 1 40 i (at' r i C) = wI (at' r i C) r 8 (nI (vs i)) from nb_f (lo := 1) (hh := 40) W CX hi hg hv6 (by decide) (by decide) cr, wI_e]
    generalize hX : at' r i C = X at *; have ex : ∀ a k, (a ≠ r ∨ k ≠ 6) → mI X a k = mI C a k := (fun a k h => by rw [← hX]; exact wI_o h); have exJ : mJ X = mJ C := (by rw [← hX]; rfl); have exR : mR X = mR C := (by rw [← hX]; rfl)
    have ag : ∀ a k, (a ≠ r ∨ (k ≠ 6 ∧ k ≠ 8)) → (a ≠ o + (34 + 2 * n) ∨ k ≠ 3) → mI (wI (wI X r 8 (nI (vs i))) (o + (34 + 2 * n)) 3 (nI (vs i))) a k = mI C a k := fun a k h1 h2 => by rw [wI_o (by omega), wI_o (by omega), ex a k (by omega)]
    have ad : ∀ a k, (a ≠ t + 5 ∨ k ≠ n) → mI (wI D (t + 5) n (nI (vs i))) a k = mI D a k := fun a k h => wI_o h
    refine ⟨(ag r 7 (.inr (by decide)) (.inl (by omega))).trans h7, ?_, ?_, ?_, ?_, ?_⟩
    · exact RG_fr RG1 (fun a k h => ag a k (by omega) (by omega)) (fun j => by show mJ X _ j = _; rw [exJ]) (fun a k h => ad a k (by omega))
    · refine ⟨⟨NL_fr a1 (ag _ _ (by omega) (by omega)) (fun j => by show mJ X _ j = _; rw [exJ]), (ag _ _ (by omega) (by omega)).trans a2, (ad _ _ (by omega)).trans a3, (by show 4 ≤ 4; decide), fun z => by omega⟩, fun f' hf' => ?_, fun f' hf' => ?_⟩
      · obtain ⟨b1, b2, b3, b4, b5, b6, b7, b8, b9⟩ := b f' hf'
        refine ⟨?_, ?_, ?_, ?_, fun k k1 k2 => by rw [ag _ _ (by omega) (by omega)]; exact b5 k k1 k2, fun k k1 => by rw [ag _ _ (by omega) (by omega)]; exact b6 k k1, ?_, ?_, ?_⟩
        · rw [ag _ _ (by omega) (by omega), ad _ _ (by omega)]; exact b1
        · rw [ag _ _ (by omega) (by omega), ad _ _ (by omega)]; exact b2
        · rw [ag _ _ (by omega) (by omega), ad _ _ (by omega)]; exact b3
        · by_cases z : f' = n
          · rw [z, wI_e, wI_e]
          · rw [ag _ _ (by omega) (by omega), ad _ _ (by omega)]; exact b4
        · rw [ad _ _ (by omega)]
          obtain ⟨n', n1, n2, n3⟩ := b7
          exact ⟨n', n1, .inl (by omega), n3⟩
        · rw [ad _ _ (by omega)]
          exact b8
        · by_cases z : f' = n
          · rw [z, wI_e]
            exact ⟨vs i, cr.2, rfl⟩
          · rw [ad _ _ (by omega)]
            exact b9
      · rw [ad _ _ (by omega), ad _ _ (by omega), ad _ _ (by omega)]
        exact c f' hf'
    · exact RO_fr RO1 (Nat.le_refl _) (Nat.le_refl _) (fun a k h => ag a k (by omega) (by omega)) (fun a k h => ad a k (by omega))
    · exact RP_fr RP1 (Nat.le_refl _) (Nat.le_refl _) (fun a k h => ag a k (by omega) (by omega)) (fun j => by show mJ X _ j = _; rw [exJ]) (fun a k h => ad a k (by omega))
    · exact RV_fr RV1 (Nat.le_refl _) (Nat.le_refl _) (by omega) (fun a k h => ag a k (by omega) (by omega)) (fun j => by show mR X _ j = _; rw [exR]) (fun j hj => ad _ _ (by omega))
  · rw [if_neg cr] at E1
    exact .inl ⟨5, _, by decide, by decide, E1, DM, ER_k (by decide) (by decide) (show ER r 5 i ps (nbM r p 1 40 i (at' r i C)) from nb_n (lo := 1) (hh := 40) W CX hi hg hv6 (by decide) (by decide) cr x7) (kp_w (.inl (by omega)))⟩
