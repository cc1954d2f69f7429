/-! ## Pure: one event more: a go, numbers -/
theorem S_54 {Z g ps vs : Nat → Nat} {K r p o : Nat} {M0 : gMem} (W : CWd Z g ps vs K r p o M0) {ro : Nat → Nat} {m t : Nat} {D0 D : gMem} (W2 : P2W g vs ro K m t D0) (DD : M2I m t D0 D) {L1 L2 L3 : List Nat} {E : List (Nat × Nat)} {nO k : Nat} {q : Nat × Nat × Nat × Nat} {C : gMem} (CC : CI r o M0 C) (R : RA Z vs r o m t L1 L2 L3 E nO k q C D) {i : Nat} (hi : i ≤ K) (hk : k ≤ i) (hv : vs i < 2 ^ 62) (hr : ro i = 4) (hb : q.2.2.1 = 0 ∨ q.2.2.1 = 4) : OUT Z vs ps r o m t i L1 L2 L3 E (nO + 1) (i + 1) (q.1, q.2.1, 1, q.2.2.2) D0 (stp2 Z r p o (54, i) C) D := by
  have ht := W2.1.1.2.2; obtain ⟨hp, ho⟩ := W_ho W; have CX := CI_at (k := i) ho CC; have x7 : mI (at' r i C) r 7 = 0 := (wI_o (.inr (by decide))).trans R.1
  obtain ⟨h7, RG1, RF1, ⟨⟨a1, a2, a3, a4⟩, b⟩, RP1, RV1⟩ := R
  have es : stp2 Z r p o (54, i) C = noM o (if cn (at' r i C) o 4 < 24 then at' r i C else ntM r p 4 i (at' r i C)) := rfl
  have E1 := E_4 W2 DD hi hr a2 a3
  have kp : ∀ Y, kpE r Y (noM o Y) := fun Y => kp_w (.inl (by omega))
  have ec : cn (at' r i C) o 4 = nO := cn_e ((wI_o (.inl (by omega))).trans a1) (by omega)
  rw [es, ec]
  by_cases c : nO = 24
  · rw [if_pos c] at E1
    rw [if_neg (by omega)]
    exact .inl ⟨4, D, by decide, by decide, E1, DD, ER_k (by decide) (by decide) (ER_nt (e := 4) W CX hi x7) (kp _)⟩
  · rw [if_neg c] at E1
    rw [if_pos (by omega)]
    refine .inr ⟨_, E1, M2_w ht DD (.inr (.inr (.inr (by omega)))), ?_⟩
    unfold noM
    rw [ec, show min (nO + 1) 24 = nO + 1 by omega]
    generalize hX : at' r i C = X at *; have ex : ∀ a k, (a ≠ r ∨ k ≠ 6) → mI X a k = mI C a k := (fun a k h => by rw [← hX]; exact wI_o h); have exJ : mJ X = mJ C := (by rw [← hX]; rfl); have exR : mR X = mR C := (by rw [← hX]; rfl)
    have ag : ∀ a k, (a ≠ r ∨ k ≠ 6) → (a ≠ o ∨ k ≠ 4) → mI (wI X o 4 (nI (nO + 1))) a k = mI C a k := fun a k h1 h2 => by rw [wI_o h2, ex a k h1]
    have ad : ∀ a k, (a ≠ t ∨ k ≠ 8) → mI (wI D t 8 (nI (nO + 1))) a k = mI D a k := fun a k h => wI_o h
    refine ⟨(ag r 7 (.inr (by decide)) (.inl (by omega))).trans h7, ?_, ?_, ?_, ?_, ?_⟩
    · exact RG_fr RG1 (fun a k h => ag a k (by omega) (by omega)) (fun j => by show mJ X _ j = _; rw [exJ]) (fun a k h => ad a k (by omega))
    · exact RF_fr RF1 (fun a k h => ag a k (by omega) (by omega)) (fun j => by show mJ X _ j = _; rw [exJ]) (fun a k h => ad a k (by omega))
    · refine ⟨⟨wI_e _ _ _ _, wI_e _ _ _ _, by omega, ⟨fun _ => by omega, fun _ => Nat.le_refl 1⟩⟩, fun j hj => ?_⟩
      have e2 : ¬ 2 ≤ (q.1, q.2.1, 1, q.2.2.2).2.2.1 := by show ¬ 2 ≤ 1; decide
      have e3 : ¬ 3 ≤ (q.1, q.2.1, 1, q.2.2.2).2.2.1 := by show ¬ 3 ≤ 1; decide
      refine ⟨fun z => ?_, fun z => ?_⟩
      · have hj2 : j + 1 < nO + 1 := z.resolve_right e2
        rw [ag _ _ (by omega) (by omega), ad _ _ (by omega)]
        exact (b j (by omega)).1 (by have := a4.mpr (by omega); omega)
      · have hj2 : j + 1 < nO + 1 := z.resolve_right e3
        rw [ag _ _ (by omega) (by omega), ad _ _ (by omega)]
        exact (b j (by omega)).2 (by have := a4.mpr (by omega); omega)
    · exact RP_fr RP1 (Nat.le_refl _) (Nat.le_refl _) (fun a k h => ag a k (by omega) (by omega)) (fun j => by show mJ X _ j = _; rw [exJ]) (fun a k h => ad a k (by omega))
    · exact RV_fr RV1 (Nat.le_refl _) (Nat.le_refl _) (by omega) (fun a k h => ag a k (by omega) (by omega)) (fun j => by show mR X _ j = _; rw [exR]) (fun j hj => ad _ _ (by omega))
theorem S_55 {Z g ps vs : Nat → Nat} {K r p o : Nat} {M0 : gMem} (W : CWd Z g ps vs K r p o M0) {ro : Nat → Nat} {m t : Nat} {D0 D : gMem} (W2 : P2W g vs ro K m t D0) (DD : M2I m t D0 D) {L1 L2 L3 : List Nat} {E : List (Nat × Nat)} {nO k : Nat} {q : Nat × Nat × Nat × Nat} {C : gMem} (CC : CI r o M0 C) (R : RA Z vs r o m t L1 L2 L3 E nO k q C D) {i : Nat} (hi : i ≤ K) (hk : k ≤ i) (hv : vs i < 2 ^ 62) (hr : ro i = 5) (hb : q.1 = 1) : OUT Z vs ps r o m t i L1 L2 L3 E nO (i + 1) q D0 (stp2 Z r p o (55, i) C) D := by
  have ht := W2.1.1.2.2; obtain ⟨hp, ho⟩ := W_ho W; have CX := CI_at (k := i) ho CC; have x7 : mI (at' r i C) r 7 = 0 := (wI_o (.inr (by decide))).trans R.1
  obtain ⟨h7, ⟨⟨a1, a2, a3, a4, a5⟩, b, c⟩, RF1, RO1, RP1, RV1⟩ := R
  have hg := g_41 W2 hi (by omega)
  have hv6 := W2.2.2.2.2.2.1 i hi hg
  obtain ⟨n, hn⟩ : ∃ n, L1.length = n + 1 := ⟨L1.length - 1, by have := a5 (by omega); omega⟩
  have n8 : n < 8 := by have := a1.2.1; omega
  have a3' := a3
  rw [hn] at a3'
  have el : lsn (at' r i C) o 2 = n := by
    unfold lsn
    rw [show cn (at' r i C) o 2 = L1.length from cn_e ((wI_o (.inl (by omega))).trans a2) (by omega)]
    omega
  have es : stp2 Z r p o (55, i) C = wI (nbM r p 1 8 i (at' r i C)) (o + (18 + 2 * lsn (at' r i C) o 2)) 0 (mI (nbM r p 1 8 i (at' r i C)) r 8) := rfl
  have E1 := E_5 W2 DD hi hr a3' n8
  rw [es, el]
  have DM : M2I m t D0 (wI D (t + 1) n (nI (vs i))) := M2_w ht DD (.inr (.inr (.inl (by omega))))
  by_cases cr : 1 ≤ vs i ∧ vs i ≤ 8
  · rw [if_pos cr] at E1
    refine .inr ⟨_, E1, DM, ?_⟩
    rw [show nbM r p 1 8 i (at' r i C) = wI (at' r i C) r 8 (nI (vs i)) from nb_f (lo := 1) (hh := 8) W CX hi hg hv6 (by decide) (by decide) cr, wI_e]
    generalize hX : at' r i C = X at *; have ex : ∀ a k, (a ≠ r ∨ k ≠ 6) → mI X a k = mI C a k := (fun a k h => by rw [← hX]; exact wI_o h); have exJ : mJ X = mJ C := (by rw [← hX]; rfl); have exR : mR X = mR C := (by rw [← hX]; rfl)
    generalize nI (vs i) = v
    have ag : ∀ a k, (a ≠ r ∨ (k ≠ 6 ∧ k ≠ 8)) → (a ≠ o + (18 + 2 * n) ∨ k ≠ 0) → mI (wI (wI X r 8 v) (o + (18 + 2 * n)) 0 v) a k = mI C a k := fun a k h1 h2 => by rw [wI_o h2, wI_o (by omega), ex a k (by omega)]
    have ad : ∀ a k, (a ≠ t + 1 ∨ k ≠ n) → mI (wI D (t + 1) n v) a k = mI D a k := fun a k h => wI_o h
    refine ⟨(ag r 7 (.inr (by decide)) (.inl (by omega))).trans h7, ?_, ?_, ?_, ?_, ?_⟩
    · refine ⟨⟨NL_fr a1 (ag _ _ (by omega) (by omega)) (fun j => by show mJ X _ j = _; rw [exJ]), (ag _ _ (by omega) (by omega)).trans a2, (ad _ _ (by omega)).trans a3, a4, fun z => by rw [ad _ _ (by omega)]; exact a5 z⟩, fun g' hg' => ?_, fun g' hg' => ?_⟩
      · obtain ⟨b1, b2, b3, b4⟩ := b g' hg'
        rw [ag (o + (18 + 2 * g')) 1 (by omega) (by omega), ag (o + (18 + 2 * g')) 2 (by omega) (by omega)]
        refine ⟨?_, b2, b3, fun k hk => ?_⟩
        · by_cases z : g' = n
          · rw [z, wI_e, wI_e]
          · rw [ag _ _ (by omega) (by omega), ad _ _ (by omega)]; exact b1
        · rw [ag _ _ (by omega) (by omega), ad _ _ (by omega)]; exact b4 k hk
      · obtain ⟨c1, c2⟩ := c g' hg'
        rw [ad _ _ (by omega)]
        exact ⟨c1, fun k hk => by rw [ad _ _ (by omega)]; exact c2 k hk⟩
    · exact RF_fr RF1 (fun a k h => ag a k (by omega) (by omega)) (fun j => by show mJ X _ j = _; rw [exJ]) (fun a k h => ad a k (by omega))
    · exact RO_fr RO1 (Nat.le_refl _) (Nat.le_refl _) (fun a k h => ag a k (by omega) (by omega)) (fun a k h => ad a k (by omega))
    · exact RP_fr RP1 (Nat.le_refl _) (Nat.le_refl _) (fun a k h => ag a k (by omega) (by omega)) (fun j => by show mJ X _ j = _; rw [exJ]) (fun a k h => ad a k (by omega))
    · exact RV_fr RV1 (Nat.le_refl _) (Nat.le_refl _) (by omega) (fun a k h => ag a k (by omega) (by omega)) (fun j => by show mR X _ j = _; rw [exR]) (fun j hj => ad _ _ (by omega))
  · rw [if_neg cr] at E1
    exact .inl ⟨5, _, by decide, by decide, E1, DM, ER_k (by decide) (by decide) (show ER r 5 i ps (nbM r p 1 8 i (at' r i C)) from nb_n (lo := 1) (hh := 8) W CX hi hg hv6 (by decide) (by decide) cr x7) (kp_w (.inl (by omega)))⟩
theorem S_sz {Z g ps vs : Nat → Nat} {K r p o : Nat} {M0 : gMem} (W : CWd Z g ps vs K r p o M0) {ro : Nat → Nat} {m t : Nat} {D0 D : gMem} (W2 : P2W g vs ro K m t D0) (DD : M2I m t D0 D) {L1 L2 L3 : List Nat} {E : List (Nat × Nat)} {nO k : Nat} {q : Nat × Nat × Nat × Nat} {C : gMem} (CC : CI r o M0 C) (R : RA Z vs r o m t L1 L2 L3 E nO k q C D) {i : Nat} (hi : i ≤ K) (hk : k ≤ i) (hv : vs i < 2 ^ 62) (hr : ro i = 6) (hb : 1 ≤ q.1) : OUT Z vs ps r o m t i L1 L2 L3 E nO (i + 1) (q.1 + 1, q.2) D0 (stp2 Z r p o (1000 + q.1, i) C) D := by
  have ht := W2.1.1.2.2; obtain ⟨hp, ho⟩ := W_ho W; have CX := CI_at (k := i) ho CC; have x7 : mI (at' r i C) r 7 = 0 := (wI_o (.inr (by decide))).trans R.1
  obtain ⟨h7, ⟨⟨a1, a2, a3, a4, a5⟩, b, c⟩, RF1, RO1, RP1, RV1⟩ := R
  have hg := g_41 W2 hi (by omega)
  have hv6 := W2.2.2.2.2.2.1 i hi hg
  obtain ⟨n, hn⟩ : ∃ n, L1.length = n + 1 := ⟨L1.length - 1, by have := a5 (by omega); omega⟩
  have n8 : n < 8 := by have := a1.2.1; omega
  have a3' := a3
  rw [hn] at a3'
  have t3 := (a5 hb).2
  obtain ⟨s, hs⟩ : ∃ s, q.1 = s + 1 := ⟨q.1 - 1, by omega⟩
  rw [hs, Nat.add_sub_cancel] at t3
  rw [hs] at a4 ⊢
  have el : lsn (at' r i C) o 2 = n := by
    unfold lsn
    rw [show cn (at' r i C) o 2 = L1.length from cn_e ((wI_o (.inl (by omega))).trans a2) (by omega)]
    omega
  have es : stp2 Z r p o (1000 + (s + 1), i) C = if 1000 + (s + 1) ≤ 1005 then wI (nbM r p 0 99 i (at' r i C)) (o + (19 + 2 * lsn (at' r i C) o 2)) (1000 + (s + 1) - 1000) (mI (nbM r p 0 99 i (at' r i C)) r 8) else nbM r p 0 99 i (ntM r p 4 i (at' r i C)) := by
    show stp1 Z r p o (1000 + (s + 1)) i (at' r i C) = _
    unfold stp1
    rw [if_neg (by omega), if_neg (by omega), if_neg (by omega), if_neg (by omega), if_neg (by omega), if_neg (by omega), if_neg (by omega), if_neg (by omega), if_neg (by omega), if_neg (by omega), if_neg (by omega), if_neg (by omega), if_neg (by omega), if_neg (by omega), if_neg (by omega), if_neg (by omega), if_neg (by omega), if_neg (by omega), if_neg (by omega), if_pos (by omega)]
  have E1 := E_6 W2 DD hi hr a3' n8 t3 (by omega)
  rw [es, el]
  by_cases c5 : s = 5
  · rw [if_pos c5] at E1
    rw [if_neg (by omega)]
    exact .inl ⟨4, _, by decide, by decide, E1, DD, ER_k (by decide) (by decide) (ER_nt (e := 4) W CX hi x7) kp_b⟩
  rw [if_neg c5] at E1
  rw [if_pos (by omega), show 1000 + (s + 1) - 1000 = s + 1 by omega]
  have DM : M2I m t D0 (wI (wI D (t + 2) (5 * n + s) (nI (vs i))) t 3 (nI (s + 1))) := M2_w ht (M2_w ht DD (.inr (.inr (.inl (by omega))))) (.inr (.inr (.inr (by omega))))
  by_cases cr : vs i ≤ 99
  · rw [if_pos cr] at E1
    refine .inr ⟨_, E1, DM, ?_⟩
    rw [show nbM r p 0 99 i (at' r i C) = wI (at' r i C) r 8 (nI (vs i)) from nb_f (lo := 0) (hh := 99) W CX hi hg hv6 (by decide) (by decide) ⟨Nat.zero_le _, cr⟩, wI_e]
    generalize hX : at' r i C = X at *; have ex : ∀ a k, (a ≠ r ∨ k ≠ 6) → mI X a k = mI C a k := (fun a k h => by rw [← hX]; exact wI_o h); have exJ : mJ X = mJ C := (by rw [← hX]; rfl); have exR : mR X = mR C := (by rw [← hX]; rfl)
    have ag : ∀ a k, (a ≠ r ∨ (k ≠ 6 ∧ k ≠ 8)) → (a ≠ o + (19 + 2 * n) ∨ k ≠ s + 1) → mI (wI (wI X r 8 (nI (vs i))) (o + (19 + 2 * n)) (s + 1) (nI (vs i))) a k = mI C a k := fun a k h1 h2 => by rw [wI_o h2, wI_o (by omega), ex a k (by omega)]
    have ad : ∀ a k, (a ≠ t + 2 ∨ k ≠ 5 * n + s) → (a ≠ t ∨ k ≠ 3) → mI (wI (wI D (t + 2) (5 * n + s) (nI (vs i))) t 3 (nI (s + 1))) a k = mI D a k := fun a k h h2 => by rw [wI_o h2, wI_o h]
    refine ⟨(ag r 7 (.inr (by decide)) (.inl (by omega))).trans h7, ?_, ?_, ?_, ?_, ?_⟩
    · refine ⟨⟨NL_fr a1 (ag _ _ (by omega) (by omega)) (fun j => by show mJ X _ j = _; rw [exJ]), (ag _ _ (by omega) (by omega)).trans a2, (ad _ _ (by omega) (by omega)).trans a3, (by show s + 1 + 1 ≤ 6; omega), fun z => ⟨by omega, by rw [wI_e]; rfl⟩⟩, fun g' hg' => ?_, fun g' hg' => ?_⟩
      · obtain ⟨b1, b2, b3, b4⟩ := b g' hg'
        rw [ag (o + (18 + 2 * g')) 0 (by omega) (by omega), ag (o + (18 + 2 * g')) 1 (by omega) (by omega), ag (o + (18 + 2 * g')) 2 (by omega) (by omega), ad (t + 1) g' (by omega) (by omega)]
        refine ⟨b1, b2, b3, fun k hk => ?_⟩
        by_cases z : g' = n ∧ k = s
        · rw [z.1, z.2, wI_e, wI_o (.inl (by omega)), wI_e]
          exact ⟨rfl, _, cr, rfl⟩
        · rw [ag _ _ (by omega) (by omega), ad _ _ (by omega) (by omega)]; exact b4 k hk
      · obtain ⟨c1, c2⟩ := c g' hg'
        rw [ad _ _ (by omega) (by omega)]
        exact ⟨c1, fun k hk => by rw [ad _ _ (by omega) (by omega)]; exact c2 k hk⟩
    · exact RF_fr RF1 (fun a k h => ag a k (by omega) (by omega)) (fun j => by show mJ X _ j = _; rw [exJ]) (fun a k h => ad a k (by omega) (by omega))
    · exact RO_fr RO1 (Nat.le_refl _) (Nat.le_refl _) (fun a k h => ag a k (by omega) (by omega)) (fun a k h => ad a k (by omega) (by omega))
    · exact RP_fr RP1 (Nat.le_refl _) (Nat.le_refl _) (fun a k h => ag a k (by omega) (by omega)) (fun j => by show mJ X _ j = _; rw [exJ]) (fun a k h => ad a k (by omega) (by omega))
    · exact RV_fr RV1 (Nat.le_refl _) (Nat.le_refl _) (by omega) (fun a k h => ag a k (by omega) (by omega)) (fun j => by show mR X _ j = _; rw [exR]) (fun j hj => ad _ _ (by omega) (by omega))
  · rw [if_neg cr] at E1
    exact .inl ⟨5, _, by decide, by decide, E1, DM, ER_k (by decide) (by decide) (show ER r 5 i ps (nbM r p 0 99 i (at' r i C)) from nb_n (lo := 0) (hh := 99) W CX hi hg hv6 (by decide) (by decide) (by omega) x7) (kp_w (.inl (by omega)))⟩
