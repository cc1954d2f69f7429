/-! ## Pure: the second pass where all is in order (written by gen99g.py) -/
def OUTg (Z vs : Nat → Nat) (r o m t : Nat) (L1 L2 L3 : List Nat) (E : List (Nat × Nat)) (nO k : Nat) (q : Nat × Nat × Nat × Nat) (C1 : gMem) : Prop := ∃ D1, RA Z vs r o m t L1 L2 L3 E nO k q C1 D1
theorem U_51 {Z g ps vs : Nat → Nat} {K r p o : Nat} {M0 : gMem} (W : CWd Z g ps vs K r p o M0) {m t : Nat} {D : gMem} (ht : m + 7 ≤ t) {L1 L2 L3 : List Nat} {E : List (Nat × Nat)} {nO k : Nat} {q : Nat × Nat × Nat × Nat} {C : gMem} (CC : CI r o M0 C) (R : RA Z vs r o m t L1 L2 L3 E nO k q C D) {i : Nat} (hi : i ≤ K) (hk : k ≤ i) (hv : vs i < 2 ^ 62) (hg : g i = 40) (hl : lkL vs (vs i) L1 0 = none) (n8 : L1.length < 8) : OUTg Z vs r o m t (L1 ++ [i]) L2 L3 E nO (i + 1) (1, q.2) (stp2 Z r p o (51, i) C) := by
  obtain ⟨h7, ⟨⟨a1, a2, a3, a4, a5⟩, b, c⟩, RF1, RO1, RP1, RV1⟩ := R
  obtain ⟨hp, ho⟩ := W_ho W
  have CX := CI_at (k := i) ho CC
  have x7 : mI (at' r i C) r 7 = 0 := (wI_o (.inr (by decide))).trans h7
  have N := NL_fr (C' := at' r i C) a1 (wI_o (.inl (by omega))) (fun _ => rfl)
  have es : stp2 Z r p o (51, i) C = ngM o (nwM r p (r + 1) i (at' r i C)) := rfl
  rw [es]
  have hlen : (L1 ++ [i]).length = L1.length + 1 := by rw [List.length_append]; rfl
  refine ⟨wI (wI D t 0 (nI (L1.length + 1))) t 3 0, ?_⟩
  rw [nw_f W CX hi N hg hv hl (by unfold cap; rw [if_neg (by omega)]; omega)]
  have FR := W_fr W CX
  obtain ⟨F1, F2, -⟩ := FR
  generalize hX : at' r i C = X at *
  have ex : ∀ a k, (a ≠ r ∨ k ≠ 6) → mI X a k = mI C a k := fun a k h => by rw [← hX]; exact wI_o h
  have exJ : mJ X = mJ C := by rw [← hX]; rfl
  have exR : mR X = mR C := by rw [← hX]; rfl
  have e2 : cn (wI (wJ X (r + 1 + 1) L1.length (lN (vs i))) (r + 1) 1 (nI (L1.length + 1))) o 2 = L1.length := cn_e (by rw [wI_o (.inl (by omega))]; exact (ex o 2 (.inl (by omega))).trans a2) (by omega)
  unfold ngM
  rw [e2, show min L1.length 7 = L1.length by omega, show min (L1.length + 1) 8 = L1.length + 1 by omega]
  generalize hY : wI (wI (wJ X (r + 1 + 1) L1.length (lN (vs i))) (r + 1) 1 (nI (L1.length + 1))) o 2 (nI (L1.length + 1)) = Y
  have ey : ∀ a k, (a ≠ r + 1 ∨ k ≠ 1) → (a ≠ o ∨ k ≠ 2) → mI Y a k = mI X a k := fun a k h1 h2 => by
    rw [← hY, wI_o h2, wI_o h1]; rfl
  have ag : ∀ a k, (a ≠ r ∨ k ≠ 6) → (a ≠ r + 1 ∨ k ≠ 1) → (a ≠ o ∨ k ≠ 2) → a ≠ o + (18 + 2 * L1.length) → a ≠ o + (19 + 2 * L1.length) → mI (cpS sG (o + (18 + 2 * L1.length)) (o + 12) Y) a k = mI C a k := fun a k h1 h2 h3 h4 h5 => by
    rw [cp_r, if_neg (by omega), ey a k h2 h3, ex a k h1]
  have ad : ∀ a k, (a ≠ t ∨ (k ≠ 0 ∧ k ≠ 3)) → mI (wI (wI D t 0 (nI (L1.length + 1))) t 3 0) a k = mI D a k := fun a k h => by
    rw [wI_o (by omega), wI_o (by omega)]
  have agJ : ∀ a j, a ≠ r + 2 → mJ (cpS sG (o + (18 + 2 * L1.length)) (o + 12) Y) a j = mJ C a j := fun a j h => by
    show mJ Y a j = _
    rw [← hY, ← exJ]
    show mJ (wJ X (r + 1 + 1) L1.length (lN (vs i))) a j = _
    rw [wJ_r, if_neg (by omega)]
  refine ⟨(ag r 7 (.inr (by decide)) (.inl (by omega)) (.inl (by omega)) (by omega) (by omega)).trans h7, ?_, ?_, ?_, ?_, ?_⟩
  · refine ⟨⟨NL_s a1 n8 hv ?_ (fun j => ?_), ?_, ?_, (by show 1 ≤ 6; decide), fun _ => ⟨by omega, ?_⟩⟩, fun g' hg' => ?_, fun g' hg' => ?_⟩
    · rw [cp_r, if_neg (by omega), ← hY, wI_o (.inl (by omega)), wI_e]
    · show mJ Y (r + 1 + 1) j = _
      rw [← hY, ← exJ]
      show mJ (wJ X (r + 1 + 1) L1.length (lN (vs i))) (r + 1 + 1) j = _
      rw [wJ_r]
      by_cases z : j = L1.length
      · rw [if_pos z, if_pos ⟨rfl, z⟩]
      · rw [if_neg z, if_neg (fun y => z y.2)]
    · rw [cp_r, if_neg (by omega), ← hY, wI_e, hlen]
    · rw [wI_o (.inr (by decide)), wI_e, hlen]
    · rw [wI_e]; rfl
    · by_cases z : g' < L1.length
      · obtain ⟨b1, b2, b3, b4⟩ := b g' z
        rw [ag _ _ (by omega) (by omega) (by omega) (by omega) (by omega), ag _ _ (by omega) (by omega) (by omega) (by omega) (by omega), ag _ _ (by omega) (by omega) (by omega) (by omega) (by omega), ad _ _ (by omega)]
        refine ⟨b1, b2, b3, fun k hk => ?_⟩
        rw [ag _ _ (by omega) (by omega) (by omega) (by omega) (by omega), ad _ _ (by omega)]
        exact b4 k hk
      · have eg : g' = L1.length := by omega
        subst eg
        obtain ⟨c1, c2⟩ := c L1.length (Nat.le_refl _)
        have t0 : ∀ k, k < 3 → mI (cpS sG (o + (18 + 2 * L1.length)) (o + 12) Y) (o + (18 + 2 * L1.length)) k = 0 := fun k hk => by
          rw [cp_r, if_pos ⟨.inl rfl, by rw [Nat.sub_self]; unfold sG; rw [if_pos rfl]; exact decide_eq_true hk⟩, Nat.sub_self, ey _ _ (by omega) (by omega)]
          exact F1 k hk
        have t1 : ∀ k, 1 ≤ k → k < 6 → mI (cpS sG (o + (18 + 2 * L1.length)) (o + 12) Y) (o + (19 + 2 * L1.length)) k = 0 := fun k k1 hk => by
          rw [cp_r, if_pos ⟨.inr (by omega), by rw [show o + (19 + 2 * L1.length) - (o + (18 + 2 * L1.length)) = 1 by omega]; unfold sG; rw [if_neg (by decide)]; exact decide_eq_true ⟨k1, hk⟩⟩, show o + (19 + 2 * L1.length) - (o + (18 + 2 * L1.length)) = 1 by omega, ey _ _ (by omega) (by omega)]
          exact F2 k k1 hk
        rw [t0 0 (by omega), t0 1 (by omega), t0 2 (by omega), ad _ _ (by omega), c1]
        refine ⟨rfl, rfl, rfl, fun k hk => ?_⟩
        rw [t1 (k + 1) (by omega) (by omega), ad _ _ (by omega), c2 k hk]
        exact ⟨rfl, 0, by omega, rfl⟩
    · obtain ⟨c1, c2⟩ := c g' (by omega)
      rw [ad _ _ (by omega)]
      exact ⟨c1, fun k hk => by rw [ad _ _ (by omega)]; exact c2 k hk⟩
  · exact RF_fr RF1 (fun a k h => ag a k (by omega) (by omega) (by omega) (by omega) (by omega)) (fun j => agJ _ j (by omega)) (fun a k h => ad a k (by omega))
  · exact RO_fr RO1 (Nat.le_refl _) (by omega) (fun a k h => ag a k (by omega) (by omega) (by omega) (by omega) (by omega)) (fun a k h => ad a k (by omega))
  · exact RP_fr RP1 (Nat.le_refl _) (by omega) (fun a k h => ag a k (by omega) (by omega) (by omega) (by omega) (by omega)) (fun j => agJ _ j (by omega)) (fun a k h => ad a k (by omega))
  · refine RV_fr RV1 (Nat.le_refl _) (by omega) (by omega) (fun a k h => ag a k (by omega) (by omega) (by omega) (by omega) (by omega)) (fun j => ?_) (fun j hj => ad _ _ (by omega))
    show mR Y (o + 6) j = _
    rw [← hY, ← exR]
    rfl
theorem U_52 {Z g ps vs : Nat → Nat} {K r p o : Nat} {M0 : gMem} (W : CWd Z g ps vs K r p o M0) {m t : Nat} {D : gMem} (ht : m + 7 ≤ t) {L1 L2 L3 : List Nat} {E : List (Nat × Nat)} {nO k : Nat} {q : Nat × Nat × Nat × Nat} {C : gMem} (CC : CI r o M0 C) (R : RA Z vs r o m t L1 L2 L3 E nO k q C D) {i : Nat} (hi : i ≤ K) (hk : k ≤ i) (hv : vs i < 2 ^ 62) (hg : g i = 40) (hl : lkL vs (vs i) L2 0 = none) (n8 : L2.length < 8) (hb : q.2.1 = 0 ∨ q.2.1 = 4) : OUTg Z vs r o m t L1 (L2 ++ [i]) L3 E nO (i + 1) (q.1, 1, q.2.2) (stp2 Z r p o (52, i) C) := by
  obtain ⟨hp, ho⟩ := W_ho W; have CX := CI_at (k := i) ho CC; have x7 : mI (at' r i C) r 7 = 0 := (wI_o (.inr (by decide))).trans R.1
  obtain ⟨h7, RG1, ⟨⟨a1, a2, a3, a4, a5⟩, b, c⟩, RO1, RP1, RV1⟩ := R
  have N := NL_fr (C' := at' r i C) a1 (wI_o (.inl (by omega))) (fun _ => rfl)
  have es : stp2 Z r p o (52, i) C = nfM o (nwM r p (r + 3) i (at' r i C)) := rfl
  rw [es]
  have hlen : (L2 ++ [i]).length = L2.length + 1 := by rw [List.length_append]; rfl
  refine ⟨wI D t 4 (nI (L2.length + 1)), ?_⟩
  rw [nw_f W CX hi N hg hv hl (by unfold cap; rw [if_neg (by omega)]; omega)]
  obtain ⟨-, -, F1, F2, -⟩ := W_fr W CX
  generalize hX : at' r i C = X at *; have ex : ∀ a k, (a ≠ r ∨ k ≠ 6) → mI X a k = mI C a k := (fun a k h => by rw [← hX]; exact wI_o h); have exJ : mJ X = mJ C := (by rw [← hX]; rfl); have exR : mR X = mR C := (by rw [← hX]; rfl)
  have e2 : cn (wI (wJ X (r + 3 + 1) L2.length (lN (vs i))) (r + 3) 1 (nI (L2.length + 1))) o 3 = L2.length := cn_e (by rw [wI_o (.inl (by omega))]; exact (ex o 3 (.inl (by omega))).trans a2) (by omega)
  unfold nfM
  rw [e2, show min L2.length 7 = L2.length by omega, show min (L2.length + 1) 8 = L2.length + 1 by omega]
  generalize hY : wI (wI (wJ X (r + 3 + 1) L2.length (lN (vs i))) (r + 3) 1 (nI (L2.length + 1))) o 3 (nI (L2.length + 1)) = Y
  have ey : ∀ a k, (a ≠ r + 3 ∨ k ≠ 1) → (a ≠ o ∨ k ≠ 3) → mI Y a k = mI X a k := fun a k h1 h2 => by
    rw [← hY, wI_o h2, wI_o h1]; rfl
  have ag : ∀ a k, (a ≠ r ∨ k ≠ 6) → (a ≠ r + 3 ∨ k ≠ 1) → (a ≠ o ∨ k ≠ 3) → a ≠ o + (34 + 2 * L2.length) → a ≠ o + (35 + 2 * L2.length) → mI (cpS sF (o + (34 + 2 * L2.length)) (o + 14) Y) a k = mI C a k := fun a k h1 h2 h3 h4 h5 => by
    rw [cp_r, if_neg (by omega), ey a k h2 h3, ex a k h1]
  have ad : ∀ a k, (a ≠ t ∨ k ≠ 4) → mI (wI D t 4 (nI (L2.length + 1))) a k = mI D a k := fun a k h => wI_o h
  have agJ : ∀ a j, a ≠ r + 4 → mJ (cpS sF (o + (34 + 2 * L2.length)) (o + 14) Y) a j = mJ C a j := fun a j h => by
    show mJ Y a j = _
    rw [← hY, ← exJ]
    show mJ (wJ X (r + 3 + 1) L2.length (lN (vs i))) a j = _
    rw [wJ_r, if_neg (by omega)]
  refine ⟨(ag r 7 (.inr (by decide)) (.inl (by omega)) (.inl (by omega)) (by omega) (by omega)).trans h7, ?_, ?_, ?_, ?_, ?_⟩
  · exact RG_fr RG1 (fun a k h => ag a k (by omega) (by omega) (by omega) (by omega) (by omega)) (fun j => agJ _ j (by omega)) (fun a k h => ad a k (by omega))
  · refine ⟨⟨NL_s a1 n8 hv ?_ (fun j => ?_), ?_, ?_, (by show 1 ≤ 4; decide), fun _ => by omega⟩, fun g' hg' => ?_, fun g' hg' => ?_⟩
    · rw [cp_r, if_neg (by omega), ← hY, wI_o (.inl (by omega)), wI_e]
    · show mJ Y (r + 3 + 1) j = _
      rw [← hY, ← exJ]
      show mJ (wJ X (r + 3 + 1) L2.length (lN (vs i))) (r + 3 + 1) j = _
      rw [wJ_r]
      by_cases z : j = L2.length
      · rw [if_pos z, if_pos ⟨rfl, z⟩]
      · rw [if_neg z, if_neg (fun y => z y.2)]
    · rw [cp_r, if_neg (by omega), ← hY, wI_e, hlen]
    · rw [wI_e, hlen]
    · rw [ad _ _ (by omega), ad _ _ (by omega), ad _ _ (by omega)]
      by_cases z : g' < L2.length
      · obtain ⟨b1, b2, b3, b4, b5, b6, ⟨n, n1, n2, n3⟩, b8⟩ := b g' z
        have ac : ∀ k, mI (cpS sF (o + (34 + 2 * L2.length)) (o + 14) Y) (o + (34 + 2 * g')) k = mI C (o + (34 + 2 * g')) k := fun k => ag _ _ (by omega) (by omega) (by omega) (by omega) (by omega)
        have ac2 : ∀ k, mI (cpS sF (o + (34 + 2 * L2.length)) (o + 14) Y) (o + (35 + 2 * g')) k = mI C (o + (35 + 2 * g')) k := fun k => ag _ _ (by omega) (by omega) (by omega) (by omega) (by omega)
        refine ⟨by rw [ac]; exact b1, by rw [ac]; exact b2, by rw [ac]; exact b3, by rw [ac]; exact b4, fun k k1 k2 => by rw [ac]; exact b5 k k1 k2, fun k k1 => by rw [ac2]; exact b6 k k1, ⟨n, n1, .inl (by omega), n3⟩, b8⟩
      · have eg : g' = L2.length := by omega
        subst eg
        obtain ⟨c1, c2, c3⟩ := c L2.length (Nat.le_refl _)
        have t0 : ∀ k, k < 10 → mI (cpS sF (o + (34 + 2 * L2.length)) (o + 14) Y) (o + (34 + 2 * L2.length)) k = if k = 6 then -1 else 0 := fun k hk => by
          rw [cp_r, if_pos ⟨.inl rfl, by rw [Nat.sub_self]; unfold sF; rw [if_pos rfl]; exact decide_eq_true hk⟩, Nat.sub_self, ey _ _ (by omega) (by omega)]
          exact F1 k hk
        have t1 : ∀ k, k < 8 → mI (cpS sF (o + (34 + 2 * L2.length)) (o + 14) Y) (o + (35 + 2 * L2.length)) k = 0 := fun k hk => by
          rw [cp_r, if_pos ⟨.inr (by omega), by rw [show o + (35 + 2 * L2.length) - (o + (34 + 2 * L2.length)) = 1 by omega]; unfold sF; rw [if_neg (by decide)]; exact decide_eq_true hk⟩, show o + (35 + 2 * L2.length) - (o + (34 + 2 * L2.length)) = 1 by omega, ey _ _ (by omega) (by omega)]
          exact F2 k hk
        rw [c1, c2, c3]
        exact ⟨t0 0 (by omega), t0 1 (by omega), t0 2 (by omega), t0 3 (by omega), fun k k1 k2 => t0 k k2, t1, ⟨0, by omega, .inr ⟨by omega, rfl⟩, rfl⟩, ⟨0, by omega, rfl⟩, 0, by omega, rfl⟩
    · rw [ad _ _ (by omega), ad _ _ (by omega), ad _ _ (by omega)]
      exact c g' (by omega)
  · exact RO_fr RO1 (by omega) (Nat.le_refl _) (fun a k h => ag a k (by omega) (by omega) (by omega) (by omega) (by omega)) (fun a k h => ad a k (by omega))
  · exact RP_fr RP1 (by omega) (Nat.le_refl _) (fun a k h => ag a k (by omega) (by omega) (by omega) (by omega) (by omega)) (fun j => agJ _ j (by omega)) (fun a k h => ad a k (by omega))
  · refine RV_fr RV1 (by omega) (Nat.le_refl _) (by omega) (fun a k h => ag a k (by omega) (by omega) (by omega) (by omega) (by omega)) (fun j => ?_) (fun j hj => ad _ _ (by omega))
    show mR Y (o + 6) j = _
    rw [← hY, ← exR]
    rfl
theorem U_53 {Z g ps vs : Nat → Nat} {K r p o : Nat} {M0 : gMem} (W : CWd Z g ps vs K r p o M0) {m t : Nat} {D : gMem} (ht : m + 7 ≤ t) {L1 L2 L3 : List Nat} {E : List (Nat × Nat)} {nO k : Nat} {q : Nat × Nat × Nat × Nat} {C : gMem} (CC : CI r o M0 C) (R : RA Z vs r o m t L1 L2 L3 E nO k q C D) {i : Nat} (hi : i ≤ K) (hk : k ≤ i) (hv : vs i < 2 ^ 62) (hg : g i = 40) (hl : lkL vs (vs i) L3 0 = none) (n8 : L3.length < 6) (hb : q.2.2.2 = 0 ∨ q.2.2.2 = 2 ∨ q.2.2.2 = 4) : OUTg Z vs r o m t L1 L2 (L3 ++ [i]) E nO (i + 1) (q.1, q.2.1, q.2.2.1, 1) (stp2 Z r p o (53, i) C) := by
  obtain ⟨hp, ho⟩ := W_ho W; have CX := CI_at (k := i) ho CC; have x7 : mI (at' r i C) r 7 = 0 := (wI_o (.inr (by decide))).trans R.1
  obtain ⟨h7, RG1, RF1, RO1, ⟨⟨a1, a2, a3, a4, a5⟩, b, c⟩, RV1⟩ := R
  have N := NL_fr (C' := at' r i C) a1 (wI_o (.inl (by omega))) (fun _ => rfl)
  have es : stp2 Z r p o (53, i) C = npM o (nwM r p (r + 5) i (at' r i C)) := rfl
  have hcap : cap r (r + 5) = 6 := if_pos rfl
  rw [es]
  have hlen : (L3 ++ [i]).length = L3.length + 1 := by rw [List.length_append]; rfl
  refine ⟨wI (wI D (t + 8) L3.length (-1)) t 11 (nI (L3.length + 1)), ?_⟩
  rw [nw_f W CX hi N hg hv hl (by rw [hcap]; omega)]
  obtain ⟨-, -, -, -, F1, F2⟩ := W_fr W CX
  generalize hX : at' r i C = X at *; have ex : ∀ a k, (a ≠ r ∨ k ≠ 6) → mI X a k = mI C a k := (fun a k h => by rw [← hX]; exact wI_o h); have exJ : mJ X = mJ C := (by rw [← hX]; rfl); have exR : mR X = mR C := (by rw [← hX]; rfl)
  have e2 : cn (wI (wJ X (r + 5 + 1) L3.length (lN (vs i))) (r + 5) 1 (nI (L3.length + 1))) o 5 = L3.length := cn_e (by rw [wI_o (.inl (by omega))]; exact (ex o 5 (.inl (by omega))).trans a2) (by omega)
  unfold npM
  rw [e2, show min L3.length 5 = L3.length by omega, show min (L3.length + 1) 6 = L3.length + 1 by omega]
  generalize hY : wI (wI (wJ X (r + 5 + 1) L3.length (lN (vs i))) (r + 5) 1 (nI (L3.length + 1))) o 5 (nI (L3.length + 1)) = Y
  have ey : ∀ a k, (a ≠ r + 5 ∨ k ≠ 1) → (a ≠ o ∨ k ≠ 5) → mI Y a k = mI X a k := fun a k h1 h2 => by
    rw [← hY, wI_o h2, wI_o h1]; rfl
  have ag : ∀ a k, (a ≠ r ∨ k ≠ 6) → (a ≠ r + 5 ∨ k ≠ 1) → (a ≠ o ∨ k ≠ 5) → a ≠ o + (74 + 2 * L3.length) → a ≠ o + (75 + 2 * L3.length) → mI (cpS sP (o + (74 + 2 * L3.length)) (o + 16) Y) a k = mI C a k := fun a k h1 h2 h3 h4 h5 => by
    rw [cp_r, if_neg (by omega), ey a k h2 h3, ex a k h1]
  have ad : ∀ a k, (a ≠ t ∨ k ≠ 11) → (a ≠ t + 8 ∨ k ≠ L3.length) → mI (wI (wI D (t + 8) L3.length (-1)) t 11 (nI (L3.length + 1))) a k = mI D a k := fun a k h h2 => by
    rw [wI_o h, wI_o h2]
  have agJ : ∀ a j, a ≠ r + 6 → mJ (cpS sP (o + (74 + 2 * L3.length)) (o + 16) Y) a j = mJ C a j := fun a j h => by
    show mJ Y a j = _
    rw [← hY, ← exJ]
    show mJ (wJ X (r + 5 + 1) L3.length (lN (vs i))) a j = _
    rw [wJ_r, if_neg (by omega)]
  refine ⟨(ag r 7 (.inr (by decide)) (.inl (by omega)) (.inl (by omega)) (by omega) (by omega)).trans h7, ?_, ?_, ?_, ?_, ?_⟩
  · exact RG_fr RG1 (fun a k h => ag a k (by omega) (by omega) (by omega) (by omega) (by omega)) (fun j => agJ _ j (by omega)) (fun a k h => ad a k (by omega) (by omega))
  · exact RF_fr RF1 (fun a k h => ag a k (by omega) (by omega) (by omega) (by omega) (by omega)) (fun j => agJ _ j (by omega)) (fun a k h => ad a k (by omega) (by omega))
  · exact RO_fr RO1 (Nat.le_refl _) (Nat.le_refl _) (fun a k h => ag a k (by omega) (by omega) (by omega) (by omega) (by omega)) (fun a k h => ad a k (by omega) (by omega))
  · refine ⟨⟨NL_s a1 (by omega) hv ?_ (fun j => ?_), ?_, ?_, by omega, fun _ => by omega⟩, fun g' hg' => ?_, fun g' hg' => ?_⟩
    · rw [cp_r, if_neg (by omega), ← hY, wI_o (.inl (by omega)), wI_e]
    · show mJ Y (r + 5 + 1) j = _
      rw [← hY, ← exJ]
      show mJ (wJ X (r + 5 + 1) L3.length (lN (vs i))) (r + 5 + 1) j = _
      rw [wJ_r]
      by_cases z : j = L3.length
      · rw [if_pos z, if_pos ⟨rfl, z⟩]
      · rw [if_neg z, if_neg (fun y => z y.2)]
    · rw [cp_r, if_neg (by omega), ← hY, wI_e, hlen]
    · rw [wI_e, hlen]
    · have a9 : ∀ k, mI (wI (wI D (t + 8) L3.length (-1)) t 11 (nI (L3.length + 1))) (t + 9) k = mI D (t + 9) k := fun k => ad _ _ (by omega) (by omega)
      have a10 : ∀ k, mI (wI (wI D (t + 8) L3.length (-1)) t 11 (nI (L3.length + 1))) (t + 10) k = mI D (t + 10) k := fun k => ad _ _ (by omega) (by omega)
      simp only [a9, a10]
      by_cases z : g' < L3.length
      · obtain ⟨b1, b2, b3, ⟨n, n1, n2, n3⟩, b5⟩ := b g' z
        have ac : ∀ k, mI (cpS sP (o + (74 + 2 * L3.length)) (o + 16) Y) (o + (74 + 2 * g')) k = mI C (o + (74 + 2 * g')) k := fun k => ag _ _ (by omega) (by omega) (by omega) (by omega) (by omega)
        have ac2 : ∀ k, mI (cpS sP (o + (74 + 2 * L3.length)) (o + 16) Y) (o + (75 + 2 * g')) k = mI C (o + (75 + 2 * g')) k := fun k => ag _ _ (by omega) (by omega) (by omega) (by omega) (by omega)
        rw [ad (t + 8) g' (by omega) (by omega)]
        refine ⟨by rw [ac]; exact b1, ?_, fun k k1 k2 => by rw [ac]; exact b3 k k1 k2, ⟨n, n1, .inl (by omega), by rw [ac]; exact n3.1, n3.2⟩, fun k k1 => by rw [ac2]; exact b5 k k1⟩
        rcases b2 with h | ⟨h, -⟩
        · exact .inl h
        · exact .inr ⟨h, .inl (by omega)⟩
      · have eg : g' = L3.length := by omega
        subst eg
        obtain ⟨c1, c2⟩ := c L3.length (Nat.le_refl _)
        have t0 : ∀ k, k < 4 ∨ (5 ≤ k ∧ k < 8) → mI (cpS sP (o + (74 + 2 * L3.length)) (o + 16) Y) (o + (74 + 2 * L3.length)) k = if k = 0 then -1 else 0 := fun k hk => by
          rw [cp_r, if_pos ⟨.inl rfl, by rw [Nat.sub_self]; unfold sP; rw [if_pos rfl]; exact decide_eq_true hk⟩, Nat.sub_self, ey _ _ (by omega) (by omega)]
          exact F1 k (by omega)
        have t1 : ∀ k, k < 8 → mI (cpS sP (o + (74 + 2 * L3.length)) (o + 16) Y) (o + (75 + 2 * L3.length)) k = 0 := fun k hk => by
          rw [cp_r, if_pos ⟨.inr (by omega), by rw [show o + (75 + 2 * L3.length) - (o + (74 + 2 * L3.length)) = 1 by omega]; unfold sP; rw [if_neg (by decide)]; exact decide_eq_true hk⟩, show o + (75 + 2 * L3.length) - (o + (74 + 2 * L3.length)) = 1 by omega, ey _ _ (by omega) (by omega)]
          exact F2 k hk
        have e8 : mI (wI (wI D (t + 8) L3.length (-1)) t 11 (nI (L3.length + 1))) (t + 8) L3.length = -1 := by
          rw [wI_o (.inl (by omega)), wI_e]
        rw [e8, c1]
        refine ⟨t0 0 (by omega), .inl rfl, fun k k1 k2 => (t0 k (by omega)).trans (if_neg (by omega)), ⟨0, by omega, .inr ⟨by omega, trivial⟩, t0 3 (by omega), rfl, fun k hk => absurd hk (Nat.not_lt_zero _), fun j k _ hk => absurd hk (Nat.not_lt_zero _)⟩, fun k hk => by rw [t1 k hk, c2 k hk]⟩
    · rw [ad _ _ (by omega) (by omega)]
      exact ⟨(c g' (by omega)).1, fun k hk => by rw [ad _ _ (by omega) (by omega)]; exact (c g' (by omega)).2 k hk⟩
  · refine RV_fr RV1 (Nat.le_refl _) (Nat.le_refl _) (by omega) (fun a k h => ag a k (by omega) (by omega) (by omega) (by omega) (by omega)) (fun j => ?_) (fun j hj => ad _ _ (by omega) (by omega))
    show mR Y (o + 6) j = _
    rw [← hY, ← exR]
    rfl
theorem U_54 {Z g ps vs : Nat → Nat} {K r p o : Nat} {M0 : gMem} (W : CWd Z g ps vs K r p o M0) {m t : Nat} {D : gMem} (ht : m + 7 ≤ t) {L1 L2 L3 : List Nat} {E : List (Nat × Nat)} {nO k : Nat} {q : Nat × Nat × Nat × Nat} {C : gMem} (CC : CI r o M0 C) (R : RA Z vs r o m t L1 L2 L3 E nO k q C D) {i : Nat} (hi : i ≤ K) (hk : k ≤ i) (hv : vs i < 2 ^ 62) (n24 : nO < 24) (hb : q.2.2.1 = 0 ∨ q.2.2.1 = 4) : OUTg Z vs r o m t L1 L2 L3 E (nO + 1) (i + 1) (q.1, q.2.1, 1, q.2.2.2) (stp2 Z r p o (54, i) C) := by
  obtain ⟨hp, ho⟩ := W_ho W; have CX := CI_at (k := i) ho CC; have x7 : mI (at' r i C) r 7 = 0 := (wI_o (.inr (by decide))).trans R.1
  obtain ⟨h7, RG1, RF1, ⟨⟨a1, a2, a3, a4⟩, b⟩, RP1, RV1⟩ := R
  have es : stp2 Z r p o (54, i) C = noM o (if cn (at' r i C) o 4 < 24 then at' r i C else ntM r p 4 i (at' r i C)) := rfl
  have ec : cn (at' r i C) o 4 = nO := cn_e ((wI_o (.inl (by omega))).trans a1) (by omega)
  rw [es, ec]
  rw [if_pos (show nO < 24 from n24)]
  refine ⟨wI D t 8 (nI (nO + 1)), ?_⟩
  unfold noM
  rw [ec, show min (nO + 1) 24 = nO + 1 by omega]
  generalize hX : at' r i C = X at *; have ex : ∀ a k, (a ≠ r ∨ k ≠ 6) → mI X a k = mI C a k := (fun a k h => by rw [← hX]; exact wI_o h); have exJ : mJ X = mJ C := (by rw [← hX]; rfl); have exR : mR X = mR C := (by rw [← hX]; rfl)
  have ag : ∀ a k, (a ≠ r ∨ k ≠ 6) → (a ≠ o ∨ k ≠ 4) → mI (wI X o 4 (nI (nO + 1))) a k = mI C a k := fun a k h1 h2 => by rw [wI_o h2, ex a k h1]
  have ad : ∀ a k, (a ≠ t ∨ k ≠ 8) → mI (wI D t 8 (nI (nO + 1))) a k = mI D a k := fun a k h => wI_o h
  refine ⟨(ag r 7 (.inr (by decide)) (.inl (by omega))).trans h7, ?_, ?_, ?_, ?_, ?_⟩
  · exact RG_fr RG1 (fun a k h => ag a k (by omega) (by omega)) (fun j => by show mJ X _ j = _; rw [exJ]) (fun a k h => ad a k (by omega))
  · exact RF_fr RF1 (fun a k h => ag a k (by omega) (by omega)) (fun j => by show mJ X _ j = _; rw [exJ]) (fun a k h => ad a k (by omega))
  · refine ⟨⟨wI_e _ _ _ _, wI_e _ _ _ _, by omega, ⟨fun _ => by omega, fun _ => Nat.le_refl 1⟩⟩, fun j hj => ?_⟩
    have e2 : ¬ 2 ≤ (q.1, q.2.1, 1, q.2.2.2).2.2.1 := by show ¬ 2 ≤ 1; decide
    have e3 : ¬ 3 ≤ (q.1, q.2.1, 1, q.2.2.2).2.2.1 := by show ¬ 3 ≤ 1; decide
    refine ⟨fun z => ?_, fun z => ?_⟩
    · have hj2 : j + 1 < nO + 1 := z.resolve_right e2
      rw [ag _ _ (by omega) (by omega), ad _ _ (by omega)]
      exact (b j (by omega)).1 (by have := a4.mpr (by omega); omega)
    · have hj2 : j + 1 < nO + 1 := z.resolve_right e3
      rw [ag _ _ (by omega) (by omega), ad _ _ (by omega)]
      exact (b j (by omega)).2 (by have := a4.mpr (by omega); omega)
  · exact RP_fr RP1 (Nat.le_refl _) (Nat.le_refl _) (fun a k h => ag a k (by omega) (by omega)) (fun j => by show mJ X _ j = _; rw [exJ]) (fun a k h => ad a k (by omega))
  · exact RV_fr RV1 (Nat.le_refl _) (Nat.le_refl _) (by omega) (fun a k h => ag a k (by omega) (by omega)) (fun j => by show mR X _ j = _; rw [exR]) (fun j hj => ad _ _ (by omega))
theorem U_55 {Z g ps vs : Nat → Nat} {K r p o : Nat} {M0 : gMem} (W : CWd Z g ps vs K r p o M0) {m t : Nat} {D : gMem} (ht : m + 7 ≤ t) {L1 L2 L3 : List Nat} {E : List (Nat × Nat)} {nO k : Nat} {q : Nat × Nat × Nat × Nat} {C : gMem} (CC : CI r o M0 C) (R : RA Z vs r o m t L1 L2 L3 E nO k q C D) {i : Nat} (hi : i ≤ K) (hk : k ≤ i) (hv : vs i < 2 ^ 62) (hg : g i = 41) (hv6 : vs i < 1000000) (cr : 1 ≤ vs i ∧ vs i ≤ 8) (hb : q.1 = 1) : OUTg Z vs r o m t L1 L2 L3 E nO (i + 1) q (stp2 Z r p o (55, i) C) := by
  obtain ⟨hp, ho⟩ := W_ho W; have CX := CI_at (k := i) ho CC; have x7 : mI (at' r i C) r 7 = 0 := (wI_o (.inr (by decide))).trans R.1
  obtain ⟨h7, ⟨⟨a1, a2, a3, a4, a5⟩, b, c⟩, RF1, RO1, RP1, RV1⟩ := R
  obtain ⟨n, hn⟩ : ∃ n, L1.length = n + 1 := ⟨L1.length - 1, by have := a5 (by omega); omega⟩
  have n8 : n < 8 := by have := a1.2.1; omega
  have el : lsn (at' r i C) o 2 = n := by
    unfold lsn
    rw [show cn (at' r i C) o 2 = L1.length from cn_e ((wI_o (.inl (by omega))).trans a2) (by omega)]
    omega
  have es : stp2 Z r p o (55, i) C = wI (nbM r p 1 8 i (at' r i C)) (o + (18 + 2 * lsn (at' r i C) o 2)) 0 (mI (nbM r p 1 8 i (at' r i C)) r 8) := rfl
  rw [es, el]
  refine ⟨wI D (t + 1) n (nI (vs i)), ?_⟩
  rw [show nbM r p 1 8 i (at' r i C) = wI (at' r i C) r 8 (nI (vs i)) from nb_f (lo := 1) (hh := 8) W CX hi hg hv6 (by decide) (by decide) cr, wI_e]
  generalize hX : at' r i C = X at *; have ex : ∀ a k, (a ≠ r ∨ k ≠ 6) → mI X a k = mI C a k := (fun a k h => by rw [← hX]; exact wI_o h); have exJ : mJ X = mJ C := (by rw [← hX]; rfl); have exR : mR X = mR C := (by rw [← hX]; rfl)
  generalize nI (vs i) = v
  have ag : ∀ a k, (a ≠ r ∨ (k ≠ 6 ∧ k ≠ 8)) → (a ≠ o + (18 + 2 * n) ∨ k ≠ 0) → mI (wI (wI X r 8 v) (o + (18 + 2 * n)) 0 v) a k = mI C a k := fun a k h1 h2 => by rw [wI_o h2, wI_o (by omega), ex a k (by omega)]
  have ad : ∀ a k, (a ≠ t + 1 ∨ k ≠ n) → mI (wI D (t + 1) n v) a k = mI D a k := fun a k h => wI_o h
  refine ⟨(ag r 7 (.inr (by decide)) (.inl (by omega))).trans h7, ?_, ?_, ?_, ?_, ?_⟩
  · refine ⟨⟨NL_fr a1 (ag _ _ (by omega) (by omega)) (fun j => by show mJ X _ j = _; rw [exJ]), (ag _ _ (by omega) (by omega)).trans a2, (ad _ _ (by omega)).trans a3, a4, fun z => by rw [ad _ _ (by omega)]; exact a5 z⟩, fun g' hg' => ?_, fun g' hg' => ?_⟩
    · obtain ⟨b1, b2, b3, b4⟩ := b g' hg'
      rw [ag (o + (18 + 2 * g')) 1 (by omega) (by omega), ag (o + (18 + 2 * g')) 2 (by omega) (by omega)]
      refine ⟨?_, b2, b3, fun k hk => ?_⟩
      · by_cases z : g' = n
        · rw [z, wI_e, wI_e]
        · rw [ag _ _ (by omega) (by omega), ad _ _ (by omega)]; exact b1
      · rw [ag _ _ (by omega) (by omega), ad _ _ (by omega)]; exact b4 k hk
    · obtain ⟨c1, c2⟩ := c g' hg'
      rw [ad _ _ (by omega)]
      exact ⟨c1, fun k hk => by rw [ad _ _ (by omega)]; exact c2 k hk⟩
  · exact RF_fr RF1 (fun a k h => ag a k (by omega) (by omega)) (fun j => by show mJ X _ j = _; rw [exJ]) (fun a k h => ad a k (by omega))
  · exact RO_fr RO1 (Nat.le_refl _) (Nat.le_refl _) (fun a k h => ag a k (by omega) (by omega)) (fun a k h => ad a k (by omega))
  · exact RP_fr RP1 (Nat.le_refl _) (Nat.le_refl _) (fun a k h => ag a k (by omega) (by omega)) (fun j => by show mJ X _ j = _; rw [exJ]) (fun a k h => ad a k (by omega))
  · exact RV_fr RV1 (Nat.le_refl _) (Nat.le_refl _) (by omega) (fun a k h => ag a k (by omega) (by omega)) (fun j => by show mR X _ j = _; rw [exR]) (fun j hj => ad _ _ (by omega))
theorem U_57 {Z g ps vs : Nat → Nat} {K r p o : Nat} {M0 : gMem} (W : CWd Z g ps vs K r p o M0) {m t : Nat} {D : gMem} (ht : m + 7 ≤ t) {L1 L2 L3 : List Nat} {E : List (Nat × Nat)} {nO k : Nat} {q : Nat × Nat × Nat × Nat} {C : gMem} (CC : CI r o M0 C) (R : RA Z vs r o m t L1 L2 L3 E nO k q C D) {i : Nat} (hi : i ≤ K) (hk : k ≤ i) (hv : vs i < 2 ^ 62) (hg : g i = 41) (hv6 : vs i < 1000000) (cr : 1 ≤ vs i ∧ vs i ≤ 5) (hb : q.2.1 = 1) : OUTg Z vs r o m t L1 L2 L3 E nO (i + 1) (q.1, 2, q.2.2) (stp2 Z r p o (57, i) C) := by
  obtain ⟨hp, ho⟩ := W_ho W; have CX := CI_at (k := i) ho CC; have x7 : mI (at' r i C) r 7 = 0 := (wI_o (.inr (by decide))).trans R.1
  obtain ⟨h7, RG1, ⟨⟨a1, a2, a3, a4, a5⟩, b, c⟩, RO1, RP1, RV1⟩ := R
  obtain ⟨n, hn⟩ : ∃ n, L2.length = n + 1 := ⟨L2.length - 1, by have := a5 (by omega); omega⟩
  have n8 : n < 8 := by have := a1.2.1; omega
  have el : lsn (at' r i C) o 3 = n := by
    unfold lsn
    rw [show cn (at' r i C) o 3 = L2.length from cn_e ((wI_o (.inl (by omega))).trans a2) (by omega)]
    omega
  have es : stp2 Z r p o (57, i) C = wI (wI (nbM r p 1 5 i (at' r i C)) (o + (34 + 2 * lsn (at' r i C) o 3)) 0 (mI (nbM r p 1 5 i (at' r i C)) r 8)) (o + (34 + 2 * lsn (at' r i C) o 3)) 1 (mI (nbM r p 1 5 i (at' r i C)) r 8) := rfl
  rw [es, el]
  refine ⟨wI D (t + 3) n (nI (vs i)), ?_⟩
  rw [show nbM r p 1 5 i (at' r i C) = wI (at' r i C) r 8 (nI (vs i)) from nb_f (lo := 1) (hh := 5) W CX hi hg hv6 (by decide) (by decide) cr, wI_e]
  generalize hX : at' r i C = X at *; have ex : ∀ a k, (a ≠ r ∨ k ≠ 6) → mI X a k = mI C a k := (fun a k h => by rw [← hX]; exact wI_o h); have exJ : mJ X = mJ C := (by rw [← hX]; rfl); have exR : mR X = mR C := (by rw [← hX]; rfl)
  have ag : ∀ a k, (a ≠ r ∨ (k ≠ 6 ∧ k ≠ 8)) → (a ≠ o + (34 + 2 * n) ∨ (k ≠ 0 ∧ k ≠ 1)) → mI (wI (wI (wI X r 8 (nI (vs i))) (o + (34 + 2 * n)) 0 (nI (vs i))) (o + (34 + 2 * n)) 1 (nI (vs i))) a k = mI C a k := fun a k h1 h2 => by rw [wI_o (by omega), wI_o (by omega), wI_o (by omega), ex a k (by omega)]
  have ad : ∀ a k, (a ≠ t + 3 ∨ k ≠ n) → mI (wI D (t + 3) n (nI (vs i))) a k = mI D a k := fun a k h => wI_o h
  refine ⟨(ag r 7 (.inr (by decide)) (.inl (by omega))).trans h7, ?_, ?_, ?_, ?_, ?_⟩
  · exact RG_fr RG1 (fun a k h => ag a k (by omega) (by omega)) (fun j => by show mJ X _ j = _; rw [exJ]) (fun a k h => ad a k (by omega))
  · refine ⟨⟨NL_fr a1 (ag _ _ (by omega) (by omega)) (fun j => by show mJ X _ j = _; rw [exJ]), (ag _ _ (by omega) (by omega)).trans a2, (ad _ _ (by omega)).trans a3, (by show 2 ≤ 4; decide), fun z => by omega⟩, fun f' hf' => ?_, fun f' hf' => ?_⟩
    · obtain ⟨b1, b2, b3, b4, b5, b6, b7, b8, b9⟩ := b f' hf'
      refine ⟨?_, ?_, ?_, ?_, fun k k1 k2 => by rw [ag _ _ (by omega) (by omega)]; exact b5 k k1 k2, fun k k1 => by rw [ag _ _ (by omega) (by omega)]; exact b6 k k1, ?_, ?_, ?_⟩
      · by_cases z : f' = n
        · rw [z, wI_o (.inr (by decide)), wI_e, wI_e]
        · rw [ag _ _ (by omega) (by omega), ad _ _ (by omega)]; exact b1
      · by_cases z : f' = n
        · rw [z, wI_e, wI_e]
        · rw [ag _ _ (by omega) (by omega), ad _ _ (by omega)]; exact b2
      · rw [ag _ _ (by omega) (by omega), ad _ _ (by omega)]; exact b3
      · rw [ag _ _ (by omega) (by omega), ad _ _ (by omega)]; exact b4
      · by_cases z : f' = n
        · rw [z, wI_e]
          exact ⟨vs i, cr.2, .inl cr.1, rfl⟩
        · rw [ad _ _ (by omega)]
          obtain ⟨n', n1, n2, n3⟩ := b7
          exact ⟨n', n1, .inl (by omega), n3⟩
      · rw [ad _ _ (by omega)]
        exact b8
      · rw [ad _ _ (by omega)]
        exact b9
    · rw [ad _ _ (by omega), ad _ _ (by omega), ad _ _ (by omega)]
      exact c f' hf'
  · exact RO_fr RO1 (Nat.le_refl _) (Nat.le_refl _) (fun a k h => ag a k (by omega) (by omega)) (fun a k h => ad a k (by omega))
  · exact RP_fr RP1 (Nat.le_refl _) (Nat.le_refl _) (fun a k h => ag a k (by omega) (by omega)) (fun j => by show mJ X _ j = _; rw [exJ]) (fun a k h => ad a k (by omega))
  · exact RV_fr RV1 (Nat.le_refl _) (Nat.le_refl _) (by omega) (fun a k h => ag a k (by omega) (by omega)) (fun j => by show mR X _ j = _; rw [exR]) (fun j hj => ad _ _ (by omega))
theorem U_58 {Z g ps vs : Nat → Nat} {K r p o : Nat} {M0 : gMem} (W : CWd Z g ps vs K r p o M0) {m t : Nat} {D : gMem} (ht : m + 7 ≤ t) {L1 L2 L3 : List Nat} {E : List (Nat × Nat)} {nO k : Nat} {q : Nat × Nat × Nat × Nat} {C : gMem} (CC : CI r o M0 C) (R : RA Z vs r o m t L1 L2 L3 E nO k q C D) {i : Nat} (hi : i ≤ K) (hk : k ≤ i) (hv : vs i < 2 ^ 62) (hg : g i = 41) (hv6 : vs i < 1000000) (cr : 1 ≤ vs i ∧ vs i ≤ 99) (hb : q.2.1 = 2) : OUTg Z vs r o m t L1 L2 L3 E nO (i + 1) (q.1, 3, q.2.2) (stp2 Z r p o (58, i) C) := by
  obtain ⟨hp, ho⟩ := W_ho W; have CX := CI_at (k := i) ho CC; have x7 : mI (at' r i C) r 7 = 0 := (wI_o (.inr (by decide))).trans R.1
  obtain ⟨h7, RG1, ⟨⟨a1, a2, a3, a4, a5⟩, b, c⟩, RO1, RP1, RV1⟩ := R
  obtain ⟨n, hn⟩ : ∃ n, L2.length = n + 1 := ⟨L2.length - 1, by have := a5 (by omega); omega⟩
  have n8 : n < 8 := by have := a1.2.1; omega
  have el : lsn (at' r i C) o 3 = n := by
    unfold lsn
    rw [show cn (at' r i C) o 3 = L2.length from cn_e ((wI_o (.inl (by omega))).trans a2) (by omega)]
    omega
  have es : stp2 Z r p o (58, i) C = wI (nbM r p 1 99 i (at' r i C)) (o + (34 + 2 * lsn (at' r i C) o 3)) 2 (mI (nbM r p 1 99 i (at' r i C)) r 8) := rfl
  rw [es, el]
  refine ⟨wI D (t + 4) n (nI (vs i)), ?_⟩
  rw [show nbM r p 1 99 i (at' r i C) = wI (at' r i C) r 8 (nI (vs i)) from nb_f (lo := 1) (hh := 99) W CX hi hg hv6 (by decide) (by decide) cr, wI_e]
  generalize hX : at' r i C = X at *; have ex : ∀ a k, (a ≠ r ∨ k ≠ 6) → mI X a k = mI C a k := (fun a k h => by rw [← hX]; exact wI_o h); have exJ : mJ X = mJ C := (by rw [← hX]; rfl); have exR : mR X = mR C := (by rw [← hX]; rfl)
  have ag : ∀ a k, (a ≠ r ∨ (k ≠ 6 ∧ k ≠ 8)) → (a ≠ o + (34 + 2 * n) ∨ k ≠ 2) → mI (wI (wI X r 8 (nI (vs i))) (o + (34 + 2 * n)) 2 (nI (vs i))) a k = mI C a k := fun a k h1 h2 => by rw [wI_o (by omega), wI_o (by omega), ex a k (by omega)]
  have ad : ∀ a k, (a ≠ t + 4 ∨ k ≠ n) → mI (wI D (t + 4) n (nI (vs i))) a k = mI D a k := fun a k h => wI_o h
  refine ⟨(ag r 7 (.inr (by decide)) (.inl (by omega))).trans h7, ?_, ?_, ?_, ?_, ?_⟩
  · exact RG_fr RG1 (fun a k h => ag a k (by omega) (by omega)) (fun j => by show mJ X _ j = _; rw [exJ]) (fun a k h => ad a k (by omega))
  · refine ⟨⟨NL_fr a1 (ag _ _ (by omega) (by omega)) (fun j => by show mJ X _ j = _; rw [exJ]), (ag _ _ (by omega) (by omega)).trans a2, (ad _ _ (by omega)).trans a3, (by show 3 ≤ 4; decide), fun z => by omega⟩, fun f' hf' => ?_, fun f' hf' => ?_⟩
    · obtain ⟨b1, b2, b3, b4, b5, b6, b7, b8, b9⟩ := b f' hf'
      refine ⟨?_, ?_, ?_, ?_, fun k k1 k2 => by rw [ag _ _ (by omega) (by omega)]; exact b5 k k1 k2, fun k k1 => by rw [ag _ _ (by omega) (by omega)]; exact b6 k k1, ?_, ?_, ?_⟩
      · rw [ag _ _ (by omega) (by omega), ad _ _ (by omega)]; exact b1
      · rw [ag _ _ (by omega) (by omega), ad _ _ (by omega)]; exact b2
      · by_cases z : f' = n
        · rw [z, wI_e, wI_e]
        · rw [ag _ _ (by omega) (by omega), ad _ _ (by omega)]; exact b3
      · rw [ag _ _ (by omega) (by omega), ad _ _ (by omega)]; exact b4
      · rw [ad _ _ (by omega)]
        obtain ⟨n', n1, n2, n3⟩ := b7
        exact ⟨n', n1, .inl (by omega), n3⟩
      · by_cases z : f' = n
        · rw [z, wI_e]
          exact ⟨vs i, cr.2, rfl⟩
        · rw [ad _ _ (by omega)]
          exact b8
      · rw [ad _ _ (by omega)]
        exact b9
    · rw [ad _ _ (by omega), ad _ _ (by omega), ad _ _ (by omega)]
      exact c f' hf'
  · exact RO_fr RO1 (Nat.le_refl _) (Nat.le_refl _) (fun a k h => ag a k (by omega) (by omega)) (fun a k h => ad a k (by omega))
  · exact RP_fr RP1 (Nat.le_refl _) (Nat.le_refl _) (fun a k h => ag a k (by omega) (by omega)) (fun j => by show mJ X _ j = _; rw [exJ]) (fun a k h => ad a k (by omega))
  · exact RV_fr RV1 (Nat.le_refl _) (Nat.le_refl _) (by omega) (fun a k h => ag a k (by omega) (by omega)) (fun j => by show mR X _ j = _; rw [exR]) (fun j hj => ad _ _ (by omega))
theorem U_59 {Z g ps vs : Nat → Nat} {K r p o : Nat} {M0 : gMem} (W : CWd Z g ps vs K r p o M0) {m t : Nat} {D : gMem} (ht : m + 7 ≤ t) {L1 L2 L3 : List Nat} {E : List (Nat × Nat)} {nO k : Nat} {q : Nat × Nat × Nat × Nat} {C : gMem} (CC : CI r o M0 C) (R : RA Z vs r o m t L1 L2 L3 E nO k q C D) {i : Nat} (hi : i ≤ K) (hk : k ≤ i) (hv : vs i < 2 ^ 62) (hg : g i = 41) (hv6 : vs i < 1000000) (cr : 1 ≤ vs i ∧ vs i ≤ 40) (hb : q.2.1 = 3) : OUTg Z vs r o m t L1 L2 L3 E nO (i + 1) (q.1, 4, q.2.2) (stp2 Z r p o (59, i) C) := by
  obtain ⟨hp, ho⟩ := W_ho W; have CX := CI_at (k := i) ho CC; have x7 : mI (at' r i C) r 7 = 0 := (wI_o (.inr (by decide))).trans R.1
  obtain ⟨h7, RG1, ⟨⟨a1, a2, a3, a4, a5⟩, b, c⟩, RO1, RP1, RV1⟩ := R
  obtain ⟨n, hn⟩ : ∃ n, L2.length = n + 1 := ⟨L2.length - 1, by have := a5 (by omega); omega⟩
  have n8 : n < 8 := by have := a1.2.1; omega
  have el : lsn (at' r i C) o 3 = n := by
    unfold lsn
    rw [show cn (at' r i C) o 3 = L2.length from cn_e ((wI_o (.inl (by omega))).trans a2) (by omega)]
    omega
  have es : stp2 Z r p o (59, i) C = wI (nbM r p 1 40 i (at' r i C)) (o + (34 + 2 * lsn (at' r i C) o 3)) 3 (mI (nbM r p 1 40 i (at' r i C)) r 8) := rfl
  rw [es, el]
  refine ⟨wI D (t + 5) n (nI (vs i)), ?_⟩
  rw [show nbM r p 1 40 i (at' r i C) = wI (at' r i C) r 8 (nI (vs i)) from nb_f (lo := 1) (hh := 40) W CX hi hg hv6 (by decide) (by decide) cr, wI_e]
  generalize hX : at' r i C = X at *; have ex : ∀ a k, (a ≠ r ∨ k ≠ 6) → mI X a k = mI C a k := (fun a k h => by rw [← hX]; exact wI_o h); have exJ : mJ X = mJ C := (by rw [← hX]; rfl); have exR : mR X = mR C := (by rw [← hX]; rfl)
  have ag : ∀ a k, (a ≠ r ∨ (k ≠ 6 ∧ k ≠ 8)) → (a ≠ o + (34 + 2 * n) ∨ k ≠ 3) → mI (wI (wI X r 8 (nI (vs i))) (o + (34 + 2 * n)) 3 (nI (vs i))) a k = mI C a k := fun a k h1 h2 => by rw [wI_o (by omega), wI_o (by omega), ex a k (by omega)]
  have ad : ∀ a k, (a ≠ t + 5 ∨ k ≠ n) → mI (wI D (t + 5) n (nI (vs i))) a k = mI D a k := fun a k h => wI_o h
  refine ⟨(ag r 7 (.inr (by decide)) (.inl (by omega))).trans h7, ?_, ?_, ?_, ?_, ?_⟩
  · exact RG_fr RG1 (fun a k h => ag a k (by omega) (by omega)) (fun j => by show mJ X _ j = _; rw [exJ]) (fun a k h => ad a k (by omega))
  · refine ⟨⟨NL_fr a1 (ag _ _ (by omega) (by omega)) (fun j => by show mJ X _ j = _; rw [exJ]), (ag _ _ (by omega) (by omega)).trans a2, (ad _ _ (by omega)).trans a3, (by show 4 ≤ 4; decide), fun z => by omega⟩, fun f' hf' => ?_, fun f' hf' => ?_⟩
    · obtain ⟨b1, b2, b3, b4, b5, b6, b7, b8, b9⟩ := b f' hf'
      refine ⟨?_, ?_, ?_, ?_, fun k k1 k2 => by rw [ag _ _ (by omega) (by omega)]; exact b5 k k1 k2, fun k k1 => by rw [ag _ _ (by omega) (by omega)]; exact b6 k k1, ?_, ?_, ?_⟩
      · rw [ag _ _ (by omega) (by omega), ad _ _ (by omega)]; exact b1
      · rw [ag _ _ (by omega) (by omega), ad _ _ (by omega)]; exact b2
      · rw [ag _ _ (by omega) (by omega), ad _ _ (by omega)]; exact b3
      · by_cases z : f' = n
        · rw [z, wI_e, wI_e]
        · rw [ag _ _ (by omega) (by omega), ad _ _ (by omega)]; exact b4
      · rw [ad _ _ (by omega)]
        obtain ⟨n', n1, n2, n3⟩ := b7
        exact ⟨n', n1, .inl (by omega), n3⟩
      · rw [ad _ _ (by omega)]
        exact b8
      · by_cases z : f' = n
        · rw [z, wI_e]
          exact ⟨vs i, cr.2, rfl⟩
        · rw [ad _ _ (by omega)]
          exact b9
    · rw [ad _ _ (by omega), ad _ _ (by omega), ad _ _ (by omega)]
      exact c f' hf'
  · exact RO_fr RO1 (Nat.le_refl _) (Nat.le_refl _) (fun a k h => ag a k (by omega) (by omega)) (fun a k h => ad a k (by omega))
  · exact RP_fr RP1 (Nat.le_refl _) (Nat.le_refl _) (fun a k h => ag a k (by omega) (by omega)) (fun j => by show mJ X _ j = _; rw [exJ]) (fun a k h => ad a k (by omega))
  · exact RV_fr RV1 (Nat.le_refl _) (Nat.le_refl _) (by omega) (fun a k h => ag a k (by omega) (by omega)) (fun j => by show mR X _ j = _; rw [exR]) (fun j hj => ad _ _ (by omega))
theorem U_sz {Z g ps vs : Nat → Nat} {K r p o : Nat} {M0 : gMem} (W : CWd Z g ps vs K r p o M0) {m t : Nat} {D : gMem} (ht : m + 7 ≤ t) {L1 L2 L3 : List Nat} {E : List (Nat × Nat)} {nO k : Nat} {q : Nat × Nat × Nat × Nat} {C : gMem} (CC : CI r o M0 C) (R : RA Z vs r o m t L1 L2 L3 E nO k q C D) {i : Nat} (hi : i ≤ K) (hk : k ≤ i) (hv : vs i < 2 ^ 62) (hg : g i = 41) (hv6 : vs i < 1000000) (hq5 : q.1 ≤ 5) (cr : vs i ≤ 99) (hb : 1 ≤ q.1) : OUTg Z vs r o m t L1 L2 L3 E nO (i + 1) (q.1 + 1, q.2) (stp2 Z r p o (1000 + q.1, i) C) := by
  obtain ⟨hp, ho⟩ := W_ho W; have CX := CI_at (k := i) ho CC; have x7 : mI (at' r i C) r 7 = 0 := (wI_o (.inr (by decide))).trans R.1
  obtain ⟨h7, ⟨⟨a1, a2, a3, a4, a5⟩, b, c⟩, RF1, RO1, RP1, RV1⟩ := R
  obtain ⟨n, hn⟩ : ∃ n, L1.length = n + 1 := ⟨L1.length - 1, by have := a5 (by omega); omega⟩
  have n8 : n < 8 := by have := a1.2.1; omega
  have t3 := (a5 hb).2
  obtain ⟨s, hs⟩ : ∃ s, q.1 = s + 1 := ⟨q.1 - 1, by omega⟩
  rw [hs, Nat.add_sub_cancel] at t3
  rw [hs] at a4 ⊢
  have el : lsn (at' r i C) o 2 = n := by
    unfold lsn
    rw [show cn (at' r i C) o 2 = L1.length from cn_e ((wI_o (.inl (by omega))).trans a2) (by omega)]
    omega
  have es : stp2 Z r p o (1000 + (s + 1), i) C = if 1000 + (s + 1) ≤ 1005 then wI (nbM r p 0 99 i (at' r i C)) (o + (19 + 2 * lsn (at' r i C) o 2)) (1000 + (s + 1) - 1000) (mI (nbM r p 0 99 i (at' r i C)) r 8) else nbM r p 0 99 i (ntM r p 4 i (at' r i C)) := by
    show stp1 Z r p o (1000 + (s + 1)) i (at' r i C) = _
    unfold stp1
    rw [if_neg (by omega), if_neg (by omega), if_neg (by omega), if_neg (by omega), if_neg (by omega), if_neg (by omega), if_neg (by omega), if_neg (by omega), if_neg (by omega), if_neg (by omega), if_neg (by omega), if_neg (by omega), if_neg (by omega), if_neg (by omega), if_neg (by omega), if_neg (by omega), if_neg (by omega), if_neg (by omega), if_neg (by omega), if_pos (by omega)]
  rw [es, el]
  rw [if_pos (by omega), show 1000 + (s + 1) - 1000 = s + 1 by omega]
  refine ⟨wI (wI D (t + 2) (5 * n + s) (nI (vs i))) t 3 (nI (s + 1)), ?_⟩
  rw [show nbM r p 0 99 i (at' r i C) = wI (at' r i C) r 8 (nI (vs i)) from nb_f (lo := 0) (hh := 99) W CX hi hg hv6 (by decide) (by decide) ⟨Nat.zero_le _, cr⟩, wI_e]
  generalize hX : at' r i C = X at *; have ex : ∀ a k, (a ≠ r ∨ k ≠ 6) → mI X a k = mI C a k := (fun a k h => by rw [← hX]; exact wI_o h); have exJ : mJ X = mJ C := (by rw [← hX]; rfl); have exR : mR X = mR C := (by rw [← hX]; rfl)
  have ag : ∀ a k, (a ≠ r ∨ (k ≠ 6 ∧ k ≠ 8)) → (a ≠ o + (19 + 2 * n) ∨ k ≠ s + 1) → mI (wI (wI X r 8 (nI (vs i))) (o + (19 + 2 * n)) (s + 1) (nI (vs i))) a k = mI C a k := fun a k h1 h2 => by rw [wI_o h2, wI_o (by omega), ex a k (by omega)]
  have ad : ∀ a k, (a ≠ t + 2 ∨ k ≠ 5 * n + s) → (a ≠ t ∨ k ≠ 3) → mI (wI (wI D (t + 2) (5 * n + s) (nI (vs i))) t 3 (nI (s + 1))) a k = mI D a k := fun a k h h2 => by rw [wI_o h2, wI_o h]
  refine ⟨(ag r 7 (.inr (by decide)) (.inl (by omega))).trans h7, ?_, ?_, ?_, ?_, ?_⟩
  · refine ⟨⟨NL_fr a1 (ag _ _ (by omega) (by omega)) (fun j => by show mJ X _ j = _; rw [exJ]), (ag _ _ (by omega) (by omega)).trans a2, (ad _ _ (by omega) (by omega)).trans a3, (by show s + 1 + 1 ≤ 6; omega), fun z => ⟨by omega, by rw [wI_e]; rfl⟩⟩, fun g' hg' => ?_, fun g' hg' => ?_⟩
    · obtain ⟨b1, b2, b3, b4⟩ := b g' hg'
      rw [ag (o + (18 + 2 * g')) 0 (by omega) (by omega), ag (o + (18 + 2 * g')) 1 (by omega) (by omega), ag (o + (18 + 2 * g')) 2 (by omega) (by omega), ad (t + 1) g' (by omega) (by omega)]
      refine ⟨b1, b2, b3, fun k hk => ?_⟩
      by_cases z : g' = n ∧ k = s
      · rw [z.1, z.2, wI_e, wI_o (.inl (by omega)), wI_e]
        exact ⟨rfl, _, cr, rfl⟩
      · rw [ag _ _ (by omega) (by omega), ad _ _ (by omega) (by omega)]; exact b4 k hk
    · obtain ⟨c1, c2⟩ := c g' hg'
      rw [ad _ _ (by omega) (by omega)]
      exact ⟨c1, fun k hk => by rw [ad _ _ (by omega) (by omega)]; exact c2 k hk⟩
  · exact RF_fr RF1 (fun a k h => ag a k (by omega) (by omega)) (fun j => by show mJ X _ j = _; rw [exJ]) (fun a k h => ad a k (by omega) (by omega))
  · exact RO_fr RO1 (Nat.le_refl _) (Nat.le_refl _) (fun a k h => ag a k (by omega) (by omega)) (fun a k h => ad a k (by omega) (by omega))
  · exact RP_fr RP1 (Nat.le_refl _) (Nat.le_refl _) (fun a k h => ag a k (by omega) (by omega)) (fun j => by show mJ X _ j = _; rw [exJ]) (fun a k h => ad a k (by omega) (by omega))
  · exact RV_fr RV1 (Nat.le_refl _) (Nat.le_refl _) (by omega) (fun a k h => ag a k (by omega) (by omega)) (fun j => by show mR X _ j = _; rw [exR]) (fun j hj => ad _ _ (by omega) (by omega))
theorem U_60 {Z g ps vs : Nat → Nat} {K r p o : Nat} {M0 : gMem} (W : CWd Z g ps vs K r p o M0) {m t : Nat} {D : gMem} (ht : m + 7 ≤ t) {L1 L2 L3 : List Nat} {E : List (Nat × Nat)} {nO k : Nat} {q : Nat × Nat × Nat × Nat} {C : gMem} (CC : CI r o M0 C) (R : RA Z vs r o m t L1 L2 L3 E nO k q C D) {i : Nat} (hi : i ≤ K) (hk : k ≤ i) (hv : vs i < 2 ^ 62) (hg : g i = 40) {j : Nat} (hl : lkL vs (vs i) L2 0 = some j) (hb : q.2.2.1 = 1) : OUTg Z vs r o m t L1 L2 L3 E nO (i + 1) (q.1, q.2.1, 2, q.2.2.2) (stp2 Z r p o (60, i) C) := by
  obtain ⟨hp, ho⟩ := W_ho W; have CX := CI_at (k := i) ho CC; have x7 : mI (at' r i C) r 7 = 0 := (wI_o (.inr (by decide))).trans R.1
  obtain ⟨h7, RG1, RF1, ⟨⟨a1, a2, a3, a4⟩, b⟩, RP1, RV1⟩ := R
  have N := NL_fr (C' := at' r i C) RF1.1.1 (wI_o (.inl (by omega))) (fun _ => rfl)
  obtain ⟨n, hn⟩ : ∃ n, nO = n + 1 := ⟨nO - 1, by have := a4.mp (by omega); omega⟩
  subst hn
  have el : lsn (at' r i C) o 4 = n := by
    unfold lsn
    rw [show cn (at' r i C) o 4 = n + 1 from cn_e ((wI_o (.inl (by omega))).trans a1) (by omega)]
    omega
  have es : stp2 Z r p o (60, i) C = wI (kwM r p (r + 3) i (at' r i C)) (o + (50 + lsn (at' r i C) o 4)) 0 (mI (kwM r p (r + 3) i (at' r i C)) r 8) := rfl
  rw [es, el]
  have hj := (lkL_lt hl).2
  refine ⟨wI (wI D (m + 6) i (nI j)) (t + 6) n (nI j), ?_⟩
  rw [kw_f W CX hi N hg hv hl, wI_e]
  generalize hX : at' r i C = X at *; have ex : ∀ a k, (a ≠ r ∨ k ≠ 6) → mI X a k = mI C a k := (fun a k h => by rw [← hX]; exact wI_o h); have exJ : mJ X = mJ C := (by rw [← hX]; rfl); have exR : mR X = mR C := (by rw [← hX]; rfl)
  have ag : ∀ a k, (a ≠ r ∨ (k ≠ 6 ∧ k ≠ 8)) → (a ≠ o + (50 + n) ∨ k ≠ 0) → mI (wI (wI X r 8 (nI j)) (o + (50 + n)) 0 (nI j)) a k = mI C a k := fun a k h1 h2 => by rw [wI_o h2, wI_o (by omega), ex a k (by omega)]
  have ad : ∀ a k, (a ≠ m + 6 ∨ k ≠ i) → (a ≠ t + 6 ∨ k ≠ n) → mI (wI (wI D (m + 6) i (nI j)) (t + 6) n (nI j)) a k = mI D a k := fun a k h h2 => by rw [wI_o h2, wI_o h]
  refine ⟨(ag r 7 (.inr (by decide)) (.inl (by omega))).trans h7, ?_, ?_, ?_, ?_, ?_⟩
  · exact RG_fr RG1 (fun a k h => ag a k (by omega) (by omega)) (fun j => by show mJ X _ j = _; rw [exJ]) (fun a k h => ad a k (by omega) (by omega))
  · exact RF_fr RF1 (fun a k h => ag a k (by omega) (by omega)) (fun j => by show mJ X _ j = _; rw [exJ]) (fun a k h => ad a k (by omega) (by omega))
  · refine ⟨⟨(ag _ _ (by omega) (by omega)).trans a1, (ad _ _ (by omega) (by omega)).trans a2, a3, ⟨fun _ => by omega, fun _ => (by show 1 ≤ 2; decide)⟩⟩, fun i' hi' => ⟨fun _ => ?_, fun z => ?_⟩⟩
    · by_cases z : i' = n
      · rw [z, wI_e]
        show _ = mI (wI (wI D (m + 6) i (nI j)) (t + 6) n (nI j)) (t + 6) n ∧ ∃ f, f < L2.length ∧ mI (wI (wI D (m + 6) i (nI j)) (t + 6) n (nI j)) (t + 6) n = nI f
        rw [wI_e]
        exact ⟨rfl, j, by omega, rfl⟩
      · rw [ag _ _ (by omega) (by omega), ad _ _ (by omega) (by omega)]
        exact (b i' hi').1 (.inl (by omega))
    · have z1 : i' + 1 < n + 1 := z.resolve_right (by show ¬ 3 ≤ 2; decide)
      rw [ag _ _ (by omega) (by omega), ad _ _ (by omega) (by omega)]
      exact (b i' hi').2 (.inl z1)
  · exact RP_fr RP1 (Nat.le_refl _) (Nat.le_refl _) (fun a k h => ag a k (by omega) (by omega)) (fun j => by show mJ X _ j = _; rw [exJ]) (fun a k h => ad a k (by omega) (by omega))
  · exact RV_fr RV1 (Nat.le_refl _) (Nat.le_refl _) (by omega) (fun a k h => ag a k (by omega) (by omega)) (fun j => by show mR X _ j = _; rw [exR]) (fun j hj => ad _ _ (by omega) (by omega))
theorem U_61 {Z g ps vs : Nat → Nat} {K r p o : Nat} {M0 : gMem} (W : CWd Z g ps vs K r p o M0) {m t : Nat} {D : gMem} (ht : m + 7 ≤ t) {L1 L2 L3 : List Nat} {E : List (Nat × Nat)} {nO k : Nat} {q : Nat × Nat × Nat × Nat} {C : gMem} (CC : CI r o M0 C) (R : RA Z vs r o m t L1 L2 L3 E nO k q C D) {i : Nat} (hi : i ≤ K) (hk : k ≤ i) (hv : vs i < 2 ^ 62) (hg : g i = 40) {j : Nat} (hl : lkL vs (vs i) L1 0 = some j) (hb : q.2.2.1 = 2) : OUTg Z vs r o m t L1 L2 L3 E nO (i + 1) (q.1, q.2.1, 3, q.2.2.2) (stp2 Z r p o (61, i) C) := by
  obtain ⟨hp, ho⟩ := W_ho W; have CX := CI_at (k := i) ho CC; have x7 : mI (at' r i C) r 7 = 0 := (wI_o (.inr (by decide))).trans R.1
  obtain ⟨h7, RG1, RF1, ⟨⟨a1, a2, a3, a4⟩, b⟩, RP1, RV1⟩ := R
  have N := NL_fr (C' := at' r i C) RG1.1.1 (wI_o (.inl (by omega))) (fun _ => rfl)
  obtain ⟨n, hn⟩ : ∃ n, nO = n + 1 := ⟨nO - 1, by have := a4.mp (by omega); omega⟩
  subst hn
  have el : lsn (at' r i C) o 4 = n := by
    unfold lsn
    rw [show cn (at' r i C) o 4 = n + 1 from cn_e ((wI_o (.inl (by omega))).trans a1) (by omega)]
    omega
  have es : stp2 Z r p o (61, i) C = wI (wI (kwM r p (r + 1) i (at' r i C)) (o + (50 + lsn (at' r i C) o 4)) 1 (mI (kwM r p (r + 1) i (at' r i C)) r 8)) (o + (50 + lsn (at' r i C) o 4)) 2 (mI (at' r i C) (o + 5) 0) := rfl
  rw [es, el]
  generalize mI (at' r i C) (o + 5) 0 = w
  have hj := (lkL_lt hl).2
  refine ⟨wI (wI D (m + 6) i (nI j)) (t + 7) n (nI j), ?_⟩
  rw [kw_f W CX hi N hg hv hl, wI_e]
  generalize hX : at' r i C = X at *; have ex : ∀ a k, (a ≠ r ∨ k ≠ 6) → mI X a k = mI C a k := (fun a k h => by rw [← hX]; exact wI_o h); have exJ : mJ X = mJ C := (by rw [← hX]; rfl); have exR : mR X = mR C := (by rw [← hX]; rfl)
  have ag : ∀ a k, (a ≠ r ∨ (k ≠ 6 ∧ k ≠ 8)) → (a ≠ o + (50 + n) ∨ (k ≠ 1 ∧ k ≠ 2)) → mI (wI (wI (wI X r 8 (nI j)) (o + (50 + n)) 1 (nI j)) (o + (50 + n)) 2 w) a k = mI C a k := fun a k h1 h2 => by rw [wI_o (by omega), wI_o (by omega), wI_o (by omega), ex a k (by omega)]
  have ad : ∀ a k, (a ≠ m + 6 ∨ k ≠ i) → (a ≠ t + 7 ∨ k ≠ n) → mI (wI (wI D (m + 6) i (nI j)) (t + 7) n (nI j)) a k = mI D a k := fun a k h h2 => by rw [wI_o h2, wI_o h]
  refine ⟨(ag r 7 (.inr (by decide)) (.inl (by omega))).trans h7, ?_, ?_, ?_, ?_, ?_⟩
  · exact RG_fr RG1 (fun a k h => ag a k (by omega) (by omega)) (fun j => by show mJ X _ j = _; rw [exJ]) (fun a k h => ad a k (by omega) (by omega))
  · exact RF_fr RF1 (fun a k h => ag a k (by omega) (by omega)) (fun j => by show mJ X _ j = _; rw [exJ]) (fun a k h => ad a k (by omega) (by omega))
  · refine ⟨⟨(ag _ _ (by omega) (by omega)).trans a1, (ad _ _ (by omega) (by omega)).trans a2, a3, ⟨fun _ => by omega, fun _ => (by show 1 ≤ 3; decide)⟩⟩, fun i' hi' => ⟨fun _ => ?_, fun _ => ?_⟩⟩
    · rw [ag _ _ (by omega) (by omega), ad _ _ (by omega) (by omega)]
      exact (b i' hi').1 (.inr (by omega))
    · by_cases z : i' = n
      · rw [z, wI_o (.inr (by decide)), wI_e]
        show _ = mI (wI (wI D (m + 6) i (nI j)) (t + 7) n (nI j)) (t + 7) n ∧ ∃ f, f < L1.length ∧ mI (wI (wI D (m + 6) i (nI j)) (t + 7) n (nI j)) (t + 7) n = nI f
        rw [wI_e]
        exact ⟨rfl, j, by omega, rfl⟩
      · rw [ag _ _ (by omega) (by omega), ad _ _ (by omega) (by omega)]
        exact (b i' hi').2 (.inl (by omega))
  · exact RP_fr RP1 (Nat.le_refl _) (Nat.le_refl _) (fun a k h => ag a k (by omega) (by omega)) (fun j => by show mJ X _ j = _; rw [exJ]) (fun a k h => ad a k (by omega) (by omega))
  · exact RV_fr RV1 (Nat.le_refl _) (Nat.le_refl _) (by omega) (fun a k h => ag a k (by omega) (by omega)) (fun j => by show mR X _ j = _; rw [exR]) (fun j hj => ad _ _ (by omega) (by omega))
theorem U_63 {Z g ps vs : Nat → Nat} {K r p o : Nat} {M0 : gMem} (W : CWd Z g ps vs K r p o M0) {m t : Nat} {D : gMem} (ht : m + 7 ≤ t) {L1 L2 L3 : List Nat} {E : List (Nat × Nat)} {nO k : Nat} {q : Nat × Nat × Nat × Nat} {C : gMem} (CC : CI r o M0 C) (R : RA Z vs r o m t L1 L2 L3 E nO k q C D) {i : Nat} (hi : i ≤ K) (hk : k ≤ i) (hv : vs i < 2 ^ 62) (hg : g i = 40) {j : Nat} (hl : lkL vs (vs i) L1 0 = some j) (hb : q.2.2.2 = 2) : OUTg Z vs r o m t L1 L2 L3 E nO (i + 1) (q.1, q.2.1, q.2.2.1, 3) (stp2 Z r p o (63, i) C) := by
  obtain ⟨hp, ho⟩ := W_ho W; have CX := CI_at (k := i) ho CC; have x7 : mI (at' r i C) r 7 = 0 := (wI_o (.inr (by decide))).trans R.1
  obtain ⟨h7, RG1, RF1, RO1, ⟨⟨a1, a2, a3, a4, a5⟩, b, c⟩, RV1⟩ := R
  have N := NL_fr (C' := at' r i C) RG1.1.1 (wI_o (.inl (by omega))) (fun _ => rfl)
  obtain ⟨n, hn⟩ : ∃ n, L3.length = n + 1 := ⟨L3.length - 1, by have := a5 (by omega); omega⟩
  have n6 : n < 6 := by omega
  have el : lsn (at' r i C) o 5 = n := by
    unfold lsn
    rw [show cn (at' r i C) o 5 = L3.length from cn_e ((wI_o (.inl (by omega))).trans a2) (by omega)]
    omega
  have es : stp2 Z r p o (63, i) C = wI (wI (kwM r p (r + 1) i (at' r i C)) (o + (74 + 2 * lsn (at' r i C) o 5)) 0 (mI (kwM r p (r + 1) i (at' r i C)) r 8)) (o + (74 + 2 * lsn (at' r i C) o 5)) 1 (mI (at' r i C) (o + 5) 0) := rfl
  rw [es, el]
  generalize mI (at' r i C) (o + 5) 0 = w
  have hj := (lkL_lt hl).2
  refine ⟨wI (wI D (m + 6) i (nI j)) (t + 8) n (nI j), ?_⟩
  rw [kw_f W CX hi N hg hv hl, wI_e]
  generalize hX : at' r i C = X at *; have ex : ∀ a k, (a ≠ r ∨ k ≠ 6) → mI X a k = mI C a k := (fun a k h => by rw [← hX]; exact wI_o h); have exJ : mJ X = mJ C := (by rw [← hX]; rfl); have exR : mR X = mR C := (by rw [← hX]; rfl)
  have ag : ∀ a k, (a ≠ r ∨ (k ≠ 6 ∧ k ≠ 8)) → (a ≠ o + (74 + 2 * n) ∨ (k ≠ 0 ∧ k ≠ 1)) → mI (wI (wI (wI X r 8 (nI j)) (o + (74 + 2 * n)) 0 (nI j)) (o + (74 + 2 * n)) 1 w) a k = mI C a k := fun a k h1 h2 => by rw [wI_o (by omega), wI_o (by omega), wI_o (by omega), ex a k (by omega)]
  have ad : ∀ a k, (a ≠ m + 6 ∨ k ≠ i) → (a ≠ t + 8 ∨ k ≠ n) → mI (wI (wI D (m + 6) i (nI j)) (t + 8) n (nI j)) a k = mI D a k := fun a k h h2 => by rw [wI_o h2, wI_o h]
  refine ⟨(ag r 7 (.inr (by decide)) (.inl (by omega))).trans h7, ?_, ?_, ?_, ?_, ?_⟩
  · exact RG_fr RG1 (fun a k h => ag a k (by omega) (by omega)) (fun j => by show mJ X _ j = _; rw [exJ]) (fun a k h => ad a k (by omega) (by omega))
  · exact RF_fr RF1 (fun a k h => ag a k (by omega) (by omega)) (fun j => by show mJ X _ j = _; rw [exJ]) (fun a k h => ad a k (by omega) (by omega))
  · exact RO_fr RO1 (Nat.le_refl _) (Nat.le_refl _) (fun a k h => ag a k (by omega) (by omega)) (fun a k h => ad a k (by omega) (by omega))
  · refine ⟨⟨NL_fr a1 (ag _ _ (by omega) (by omega)) (fun j => by show mJ X _ j = _; rw [exJ]), (ag _ _ (by omega) (by omega)).trans a2, (ad _ _ (by omega) (by omega)).trans a3, a4, fun _ => by omega⟩, fun q' hq => ?_, fun q' hq => ?_⟩
    · obtain ⟨b1, b2, b3, ⟨n', n1, n2, n3, n4, n5, n6⟩, b5⟩ := b q' hq
      refine ⟨?_, ?_, fun k k1 k2 => by rw [ag _ _ (by omega) (by omega)]; exact b3 k k1 k2, ⟨n', n1, .inl (by omega), by rw [ag _ _ (by omega) (by omega)]; exact n3, by rw [ad _ _ (by omega) (by omega)]; exact n4, fun k hk => by rw [ad _ _ (by omega) (by omega)]; exact n5 k hk, fun j k hj hk => by rw [ad _ _ (by omega) (by omega), ad _ _ (by omega) (by omega)]; exact n6 j k hj hk⟩, fun k hk => by rw [ag _ _ (by omega) (by omega), ad _ _ (by omega) (by omega)]; exact b5 k hk⟩
      · by_cases z : q' = n
        · rw [z, wI_o (.inr (by decide)), wI_e, wI_e]
        · rw [ag _ _ (by omega) (by omega), ad _ _ (by omega) (by omega)]; exact b1
      · by_cases z : q' = n
        · rw [z, wI_e]
          exact .inr ⟨⟨j, by omega, rfl⟩, .inr (Nat.le_refl 3)⟩
        · rw [ad _ _ (by omega) (by omega)]
          rcases b2 with h | ⟨h, -⟩
          · exact .inl h
          · exact .inr ⟨h, .inr (Nat.le_refl 3)⟩
    · rw [ad _ _ (by omega) (by omega)]
      exact ⟨(c q' hq).1, fun k hk => by rw [ad _ _ (by omega) (by omega)]; exact (c q' hq).2 k hk⟩
  · exact RV_fr RV1 (Nat.le_refl _) (Nat.le_refl _) (by omega) (fun a k h => ag a k (by omega) (by omega)) (fun j => by show mR X _ j = _; rw [exR]) (fun j hj => ad _ _ (by omega) (by omega))
theorem U_62 {Z g ps vs : Nat → Nat} {K r p o : Nat} {M0 : gMem} (W : CWd Z g ps vs K r p o M0) {m t : Nat} {D : gMem} (ht : m + 7 ≤ t) {L1 L2 L3 : List Nat} {E : List (Nat × Nat)} {nO k : Nat} {q : Nat × Nat × Nat × Nat} {C : gMem} (CC : CI r o M0 C) (R : RA Z vs r o m t L1 L2 L3 E nO k q C D) {i : Nat} (hi : i ≤ K) (hk : k ≤ i) (hv : vs i < 2 ^ 62) (hg : g i = 40) {j : Nat} (hl : lkL vs (vs i) L2 0 = some j) (hm : ∀ k, k < cn C (o + (74 + 2 * (L3.length - 1))) 3 → mI C (o + (75 + 2 * (L3.length - 1))) k ≠ nI j) (hb : q.2.2.2 = 1 ∨ q.2.2.2 = 2) : OUTg Z vs r o m t L1 L2 L3 E nO (i + 1) (q.1, q.2.1, q.2.2.1, 2) (stp2 Z r p o (62, i) C) := by
  obtain ⟨hp, ho⟩ := W_ho W; have CX := CI_at (k := i) ho CC; have x7 : mI (at' r i C) r 7 = 0 := (wI_o (.inr (by decide))).trans R.1
  obtain ⟨h7, RG1, RF1, RO1, ⟨⟨a1, a2, a3, a4, a5⟩, b, c⟩, RV1⟩ := R
  have N := NL_fr (C' := at' r i C) RF1.1.1 (wI_o (.inl (by omega))) (fun _ => rfl)
  have hF8 : L2.length ≤ 8 := N.2.1
  obtain ⟨n, hn⟩ : ∃ n, L3.length = n + 1 := ⟨L3.length - 1, by have := a5 (by omega); omega⟩
  have n6 : n < 6 := by omega
  have el : lsn (at' r i C) o 5 = n := by
    unfold lsn
    rw [show cn (at' r i C) o 5 = L3.length from cn_e ((wI_o (.inl (by omega))).trans a2) (by omega)]
    omega
  obtain ⟨b1, b2, b3, ⟨c0, n1, n2, n3, n4, n5, nd⟩, b5⟩ := b n (by omega)
  have b2' : mI D (t + 8) n = -1 := by
    rcases b2 with h | ⟨-, h⟩
    · exact h
    · omega
  have xa : ∀ a k, (a ≠ r ∨ k ≠ 6) → mI (at' r i C) a k = mI C a k := fun a k h => wI_o h
  have ec : cn (at' r i C) (o + (74 + 2 * n)) 3 = c0 := cn_e ((xa _ _ (by omega)).trans n3) (by omega)
  have ef : fnd (at' r i C) (r + 3) (mJ (at' r i C) (p + 4) i) = tdV (lkL vs (vs i) L2 0) := by
    rw [X_J W CX hi (.inl hg), fnd_L N hv]
  have es : stp2 Z r p o (62, i) C = paM (o + (74 + 2 * lsn (at' r i C) o 5)) (mI (kwM r p (r + 3) i (cif (hsP (at' r i C) o (lsn (at' r i C) o 5) (fnd (at' r i C) (r + 3) (mJ (at' r i C) (p + 4) i))) (ntM r p 6 i (at' r i C)) (at' r i C))) r 8) (kwM r p (r + 3) i (cif (hsP (at' r i C) o (lsn (at' r i C) o 5) (fnd (at' r i C) (r + 3) (mJ (at' r i C) (p + 4) i))) (ntM r p 6 i (at' r i C)) (at' r i C))) := rfl
  rw [es, el, ef]
  have hs : ∀ v, hsP (at' r i C) o n v ↔ ∃ k, k < c0 ∧ mI D (t + 10) (8 * n + k) = v := fun v => by
    unfold hsP hasN
    rw [ec]
    constructor
    · rintro ⟨k, k1, k2⟩
      exact ⟨k, k1, by rw [← b5 k (by omega), ← xa _ _ (.inl (by omega))]; exact k2⟩
    · rintro ⟨k, k1, k2⟩
      exact ⟨k, k1, by rw [xa _ _ (.inl (by omega)), b5 k (by omega)]; exact k2⟩
  rw [show lkL vs (vs i) L2 0 = some j from hl, show tdV (some j) = nI j from rfl]
  have hj := (lkL_lt hl).2
  have ad1 : ∀ a k, (a ≠ m + 6 ∨ k ≠ i) → mI (wI D (m + 6) i (nI j)) a k = mI D a k := fun a k h => wI_o h
  have full : (∀ k, k < c0 → mI D (t + 10) (8 * n + k) ≠ nI j) → c0 < 8 := fun h => by
    have := pig L2.length (c0 + 1) (fun k => if k < c0 then (mI D (t + 10) (8 * n + k)).toNatClampNeg else j) (fun k hk => by
      show (if k < c0 then (mI D (t + 10) (8 * n + k)).toNatClampNeg else j) < L2.length
      by_cases z : k < c0
      · obtain ⟨f, f1, f2⟩ := n5 k z
        rw [if_pos z, f2, nI_clamp (by omega)]; exact f1
      · rw [if_neg z]; omega) (fun x k hx hk => by
      show (if x < c0 then (mI D (t + 10) (8 * n + x)).toNatClampNeg else j) ≠ (if k < c0 then (mI D (t + 10) (8 * n + k)).toNatClampNeg else j)
      obtain ⟨f, f1, f2⟩ := n5 x (by omega)
      rw [if_pos (by omega), f2, nI_clamp (by omega)]
      by_cases z : k < c0
      · obtain ⟨f', f1', f2'⟩ := n5 k z
        have := nd x k hx z
        rw [f2, f2'] at this
        rw [if_pos z, f2', nI_clamp (by omega)]
        intro y
        exact this (by rw [y])
      · rw [if_neg z]
        have := h x (by omega)
        rw [f2] at this
        intro y
        exact this (by rw [y]))
    omega
  have ecC : cn C (o + (74 + 2 * n)) 3 = c0 := cn_e n3 (by omega)
  rw [hn, Nat.add_sub_cancel, ecC] at hm
  have mn' : ∀ k, k < c0 → mI D (t + 10) (8 * n + k) ≠ nI j := fun k hk e => hm k hk ((b5 k (by omega)).trans e)
  have c8 := full mn'
  rw [cif_f (fun z => by obtain ⟨k, k1, k2⟩ := (hs _).mp z; exact mn' k k1 k2), kw_f W CX hi N hg hv hl, wI_e]
  refine ⟨wI (wI (wI D (m + 6) i (nI j)) (t + 10) (8 * n + c0) (nI j)) (t + 9) n (nI (c0 + 1)), ?_⟩
  have ec2 : cn (wI (at' r i C) r 8 (nI j)) (o + (74 + 2 * n)) 3 = c0 := cn_e ((wI_o (.inl (by omega))).trans ((xa _ _ (by omega)).trans n3)) (by omega)
  unfold paM
  rw [ec2, if_pos c8, show o + (74 + 2 * n) + 1 = o + (75 + 2 * n) by omega]
  clear es ef hs ec2 ec hm ecC
  generalize hX : at' r i C = X at *; have ex : ∀ a k, (a ≠ r ∨ k ≠ 6) → mI X a k = mI C a k := (fun a k h => by rw [← hX]; exact wI_o h); have exJ : mJ X = mJ C := (by rw [← hX]; rfl); have exR : mR X = mR C := (by rw [← hX]; rfl)
  have ag : ∀ a k, (a ≠ r ∨ (k ≠ 6 ∧ k ≠ 8)) → (a ≠ o + (75 + 2 * n) ∨ k ≠ c0) → (a ≠ o + (74 + 2 * n) ∨ k ≠ 3) → mI (wI (wI (wI X r 8 (nI j)) (o + (75 + 2 * n)) c0 (nI j)) (o + (74 + 2 * n)) 3 (nI (c0 + 1))) a k = mI C a k := fun a k h1 h2 h3 => by rw [wI_o h3, wI_o h2, wI_o (by omega), ex a k (by omega)]
  have ad : ∀ a k, (a ≠ m + 6 ∨ k ≠ i) → (a ≠ t + 10 ∨ k ≠ 8 * n + c0) → (a ≠ t + 9 ∨ k ≠ n) → mI (wI (wI (wI D (m + 6) i (nI j)) (t + 10) (8 * n + c0) (nI j)) (t + 9) n (nI (c0 + 1))) a k = mI D a k := fun a k h h2 h3 => by rw [wI_o h3, wI_o h2, wI_o h]
  refine ⟨(ag r 7 (.inr (by decide)) (.inl (by omega)) (.inl (by omega))).trans h7, ?_, ?_, ?_, ?_, ?_⟩
  · exact RG_fr RG1 (fun a k h => ag a k (by omega) (by omega) (by omega)) (fun j => by show mJ X _ j = _; rw [exJ]) (fun a k h => ad a k (by omega) (by omega) (by omega))
  · exact RF_fr RF1 (fun a k h => ag a k (by omega) (by omega) (by omega)) (fun j => by show mJ X _ j = _; rw [exJ]) (fun a k h => ad a k (by omega) (by omega) (by omega))
  · exact RO_fr RO1 (Nat.le_refl _) (Nat.le_refl _) (fun a k h => ag a k (by omega) (by omega) (by omega)) (fun a k h => ad a k (by omega) (by omega) (by omega))
  · refine ⟨⟨NL_fr a1 (ag _ _ (by omega) (by omega) (by omega)) (fun j => by show mJ X _ j = _; rw [exJ]), (ag _ _ (by omega) (by omega) (by omega)).trans a2, (ad _ _ (by omega) (by omega) (by omega)).trans a3, a4, fun _ => by omega⟩, fun q' hq => ?_, fun q' hq => ?_⟩
    · rw [ad (t + 8) q' (by omega) (by omega) (by omega), ag _ 0 (by omega) (by omega) (by omega)]
      by_cases z : q' = n
      · subst z
        have e10 : ∀ k, k < c0 → mI (wI (wI (wI D (m + 6) i (nI j)) (t + 10) (8 * q' + c0) (nI j)) (t + 9) q' (nI (c0 + 1))) (t + 10) (8 * q' + k) = mI D (t + 10) (8 * q' + k) := fun k hk => ad _ _ (by omega) (by omega) (by omega)
        have e10c : mI (wI (wI (wI D (m + 6) i (nI j)) (t + 10) (8 * q' + c0) (nI j)) (t + 9) q' (nI (c0 + 1))) (t + 10) (8 * q' + c0) = nI j := by rw [wI_o (.inl (by omega)), wI_e]
        refine ⟨b1, .inl b2', fun k k1 k2 => by rw [ag _ _ (by omega) (by omega) (by omega)]; exact b3 k k1 k2, ⟨c0 + 1, by omega, .inl (by omega), wI_e _ _ _ _, wI_e _ _ _ _, fun k hk => ?_, fun x k hx hk => ?_⟩, fun k hk => ?_⟩
        · by_cases y : k = c0
          · rw [y, e10c]; exact ⟨j, by omega, rfl⟩
          · rw [e10 k (by omega)]; exact n5 k (by omega)
        · rw [e10 x (by omega)]
          by_cases y : k = c0
          · rw [y, e10c]; exact mn' x (by omega)
          · rw [e10 k (by omega)]; exact nd x k hx (by omega)
        · by_cases y : k = c0
          · rw [y, e10c, wI_o (.inl (by omega)), wI_e]
          · rw [ag _ _ (by omega) (by omega) (by omega), ad _ _ (by omega) (by omega) (by omega)]; exact b5 k hk
      · obtain ⟨b1, b2, b3, ⟨n', n1, n2, n3, n4, n5, nd⟩, b5⟩ := b q' hq
        refine ⟨b1, ?_, fun k k1 k2 => by rw [ag _ _ (by omega) (by omega) (by omega)]; exact b3 k k1 k2, ⟨n', n1, .inl (by omega), by rw [ag _ _ (by omega) (by omega) (by omega)]; exact n3, by rw [ad _ _ (by omega) (by omega) (by omega)]; exact n4, fun k hk => by rw [ad _ _ (by omega) (by omega) (by omega)]; exact n5 k hk, fun x k hx hk => by rw [ad _ _ (by omega) (by omega) (by omega), ad _ _ (by omega) (by omega) (by omega)]; exact nd x k hx hk⟩, fun k hk => by rw [ag _ _ (by omega) (by omega) (by omega), ad _ _ (by omega) (by omega) (by omega)]; exact b5 k hk⟩
        rcases b2 with h | ⟨h, -⟩
        · exact .inl h
        · exact .inr ⟨h, .inl (by omega)⟩
    · rw [ad _ _ (by omega) (by omega) (by omega)]
      exact ⟨(c q' hq).1, fun k hk => by rw [ad _ _ (by omega) (by omega) (by omega)]; exact (c q' hq).2 k hk⟩
  · exact RV_fr RV1 (Nat.le_refl _) (Nat.le_refl _) (by omega) (fun a k h => ag a k (by omega) (by omega) (by omega)) (fun j => by show mR X _ j = _; rw [exR]) (fun j hj => ad _ _ (by omega) (by omega) (by omega))
theorem U_nm {Z g ps vs : Nat → Nat} {K r p o : Nat} {M0 : gMem} (W : CWd Z g ps vs K r p o M0) {m t : Nat} {D : gMem} (ht : m + 7 ≤ t) {L1 L2 L3 : List Nat} {E : List (Nat × Nat)} {nO k : Nat} {q : Nat × Nat × Nat × Nat} {C : gMem} (CC : CI r o M0 C) (R : RA Z vs r o m t L1 L2 L3 E nO k q C D) {i : Nat} (hi : i ≤ K) (hk : k ≤ i) (hv : vs i < 2 ^ 62) {c : Nat} (hE : E.length < 400) (hg : g i = 40) {j : Nat} (hc : (c = 16 ∨ c = 17 ∨ c = 4 ∨ c = 19) ∧ lkL vs (vs i) L2 0 = some j ∨ (c = 2 ∨ c = 18) ∧ lkL vs (vs i) L1 0 = some j) (hb : q.2.2.2 ≠ 1) : OUTg Z vs r o m t L1 L2 L3 (E ++ [(c, i)]) nO (i + 1) (q.1, q.2.1, q.2.2.1, if q.2.2.2 = 2 then 4 else q.2.2.2) (stp2 Z r p o (c, i) C) := by
  obtain ⟨hp, ho⟩ := W_ho W; have CX := CI_at (k := i) ho CC; have x7 : mI (at' r i C) r 7 = 0 := (wI_o (.inr (by decide))).trans R.1
  obtain ⟨h7, RG1, RF1, RO1, RP1, RV1⟩ := R
  obtain ⟨x, L, es, N, hl, hx⟩ : ∃ x L, stp2 Z r p o (c, i) C = adM Z o c (mI (kwM r p x i (at' r i C)) r 8) (kwM r p x i (at' r i C)) ∧ NL vs x L (at' r i C) ∧ lkL vs (vs i) L 0 = some j ∧ ((c = 16 ∨ c = 17 ∨ c = 4 ∨ c = 19) ∧ L = L2 ∨ (c = 2 ∨ c = 18) ∧ L = L1) := by
    rcases hc with ⟨h, h1⟩ | ⟨h, h1⟩
    · refine ⟨r + 3, L2, ?_, NL_fr (C' := at' r i C) RF1.1.1 (wI_o (.inl (by omega))) (fun _ => rfl), h1, .inl ⟨h, rfl⟩⟩
      show stp1 Z r p o c i (at' r i C) = _
      unfold stp1
      rw [if_pos h]
    · refine ⟨r + 1, L1, ?_, NL_fr (C' := at' r i C) RG1.1.1 (wI_o (.inl (by omega))) (fun _ => rfl), h1, .inr ⟨h, rfl⟩⟩
      show stp1 Z r p o c i (at' r i C) = _
      unfold stp1
      rw [if_neg (by omega), if_pos h]
  rw [es]
  have hj := (lkL_lt hl).2
  refine ⟨wI D (m + 6) i (nI j), ?_⟩
  rw [kw_f W CX hi N hg hv hl, wI_e]
  clear es N
  generalize hX : at' r i C = X at *; have ex : ∀ a k, (a ≠ r ∨ k ≠ 6) → mI X a k = mI C a k := (fun a k h => by rw [← hX]; exact wI_o h); have exJ : mJ X = mJ C := (by rw [← hX]; rfl); have exR : mR X = mR C := (by rw [← hX]; rfl)
  obtain ⟨y1, y2, y3, y4, y5, y6, y7⟩ := ad_x (Z := Z) (o := o) (c := c) (n := E.length) (v := nI j) (Y := wI X r 8 (nI j)) ((wI_o (.inl (by omega))).trans ((ex _ _ (by omega)).trans RV1.1)) hE
  generalize adM Z o c (nI j) (wI X r 8 (nI j)) = Y at *
  have ag : ∀ a k, (a ≠ r ∨ (k ≠ 6 ∧ k ≠ 8)) → a ≠ o + 7 → (a ≠ o + 5 ∨ k ≠ 0) → mI Y a k = mI C a k := fun a k h1 h2 h3 => by rw [y1 a k h2 h3, wI_o (by omega), ex a k (by omega)]
  have ad : ∀ a k, (a ≠ m + 6 ∨ k ≠ i) → mI (wI D (m + 6) i (nI j)) a k = mI D a k := fun a k h => wI_o h
  have yJ : ∀ a s, mJ Y a s = mJ C a s := fun a s => by rw [y7, ← exJ]; rfl
  refine ⟨(ag r 7 (.inr (by decide)) (by omega) (.inl (by omega))).trans h7, ?_, ?_, ?_, ?_, ?_⟩
  · exact RG_fr RG1 (fun a k h => ag a k (by omega) (by omega) (by omega)) (fun j => yJ _ j) (fun a k h => ad a k (by omega))
  · exact RF_fr RF1 (fun a k h => ag a k (by omega) (by omega) (by omega)) (fun j => yJ _ j) (fun a k h => ad a k (by omega))
  · exact RO_fr RO1 (Nat.le_refl _) (Nat.le_refl _) (fun a k h => ag a k (by omega) (by omega) (by omega)) (fun a k h => ad a k (by omega))
  · exact RP_c (RP_fr RP1 (Nat.le_refl _) (Nat.le_refl _) (fun a k h => ag a k (by omega) (by omega) (by omega)) (fun j => yJ _ j) (fun a k h => ad a k (by omega))) hb
  · refine RV_s RV1 (by omega) y2 (fun s hs => ?_) (fun s hs => ?_) y5 (fun s hs => ad _ _ (by omega)) (fun h => ?_) (fun h => ?_) (fun h => by omega)
    · rw [y4 s hs, wI_o (.inl (by omega)), ex _ _ (by omega)]
    · rw [y6 _ _ (.inr hs), ← exR]; rfl
    · have hL : L = L1 := by rcases hx with ⟨h', -⟩ | ⟨-, h'⟩; exact absurd h (by omega); exact h'
      exact ⟨by omega, j, by rw [← hL]; omega, y3, wI_e _ _ _ _⟩
    · have hL : L = L2 := by rcases hx with ⟨-, h'⟩ | ⟨h', -⟩; exact h'; exact absurd h (by omega)
      exact ⟨by omega, j, by rw [← hL]; omega, y3, wI_e _ _ _ _⟩
theorem U_41 {Z g ps vs : Nat → Nat} {K r p o : Nat} {M0 : gMem} (W : CWd Z g ps vs K r p o M0) {m t : Nat} {D : gMem} (ht : m + 7 ≤ t) {L1 L2 L3 : List Nat} {E : List (Nat × Nat)} {nO k : Nat} {q : Nat × Nat × Nat × Nat} {C : gMem} (CC : CI r o M0 C) (R : RA Z vs r o m t L1 L2 L3 E nO k q C D) {i : Nat} (hi : i ≤ K) (hk : k ≤ i) (hv : vs i < 2 ^ 62) (hE : E.length < 400) (hg : g i = 41) (hv6 : vs i < 1000000) (hb : q.2.2.2 ≠ 1) : OUTg Z vs r o m t L1 L2 L3 (E ++ [(41, i)]) nO (i + 1) (q.1, q.2.1, q.2.2.1, if q.2.2.2 = 2 then 4 else q.2.2.2) (stp2 Z r p o (41, i) C) := by
  obtain ⟨hp, ho⟩ := W_ho W; have CX := CI_at (k := i) ho CC; have x7 : mI (at' r i C) r 7 = 0 := (wI_o (.inr (by decide))).trans R.1
  obtain ⟨h7, RG1, RF1, RO1, RP1, RV1⟩ := R
  have es : stp2 Z r p o (41, i) C = adM Z o 41 (mI (nbM r p 0 999999 i (at' r i C)) r 8) (nbM r p 0 999999 i (at' r i C)) := rfl
  rw [es, show nbM r p 0 999999 i (at' r i C) = wI (at' r i C) r 8 (nI (vs i)) from nb_f (lo := 0) (hh := 999999) W CX hi hg hv6 (by decide) (by decide) ⟨Nat.zero_le _, by omega⟩, wI_e]
  refine ⟨D, ?_⟩
  clear es
  generalize hX : at' r i C = X at *; have ex : ∀ a k, (a ≠ r ∨ k ≠ 6) → mI X a k = mI C a k := (fun a k h => by rw [← hX]; exact wI_o h); have exJ : mJ X = mJ C := (by rw [← hX]; rfl); have exR : mR X = mR C := (by rw [← hX]; rfl)
  obtain ⟨y1, y2, y3, y4, y5, y6, y7⟩ := ad_x (Z := Z) (o := o) (c := 41) (n := E.length) (v := nI (vs i)) (Y := wI X r 8 (nI (vs i))) ((wI_o (.inl (by omega))).trans ((ex _ _ (by omega)).trans RV1.1)) hE
  generalize adM Z o 41 (nI (vs i)) (wI X r 8 (nI (vs i))) = Y at *
  have ag : ∀ a k, (a ≠ r ∨ (k ≠ 6 ∧ k ≠ 8)) → a ≠ o + 7 → (a ≠ o + 5 ∨ k ≠ 0) → mI Y a k = mI C a k := fun a k h1 h2 h3 => by rw [y1 a k h2 h3, wI_o (by omega), ex a k (by omega)]
  have yJ : ∀ a s, mJ Y a s = mJ C a s := fun a s => by rw [y7, ← exJ]; rfl
  refine ⟨(ag r 7 (.inr (by decide)) (by omega) (.inl (by omega))).trans h7, ?_, ?_, ?_, ?_, ?_⟩
  · exact RG_fr RG1 (fun a k h => ag a k (by omega) (by omega) (by omega)) (fun j => yJ _ j) (fun a k h => rfl)
  · exact RF_fr RF1 (fun a k h => ag a k (by omega) (by omega) (by omega)) (fun j => yJ _ j) (fun a k h => rfl)
  · exact RO_fr RO1 (Nat.le_refl _) (Nat.le_refl _) (fun a k h => ag a k (by omega) (by omega) (by omega)) (fun a k h => rfl)
  · exact RP_c (RP_fr RP1 (Nat.le_refl _) (Nat.le_refl _) (fun a k h => ag a k (by omega) (by omega) (by omega)) (fun j => yJ _ j) (fun a k h => rfl)) hb
  · refine RV_s RV1 (by omega) y2 (fun s hs => ?_) (fun s hs => ?_) y5 (fun s hs => rfl) (fun h => by omega) (fun h => by omega) (fun h => y3)
    · rw [y4 s hs, wI_o (.inl (by omega)), ex _ _ (by omega)]
    · rw [y6 _ _ (.inr hs), ← exR]; rfl
def OUTgp (Z vs : Nat → Nat) (r o m t : Nat) (pre : List (Nat × Nat)) (k : Nat) (q : Nat × Nat × Nat × Nat) (C1 : gMem) : Prop := OUTg Z vs r o m t (tks 1 pre) (tks 2 pre) (tks 3 pre) (ceL pre) (nc 54 pre) k q C1
/-- an event that is in order behind these -/
def GE (vs : Nat → Nat) (o : Nat) (pre : List (Nat × Nat)) (c i : Nat) (C : gMem) : Prop :=
  (c = 51 → lkL vs (vs i) (tks 1 pre) 0 = none ∧ (tks 1 pre).length < 8) ∧ (c = 52 → lkL vs (vs i) (tks 2 pre) 0 = none ∧ (tks 2 pre).length < 8) ∧ (c = 53 → lkL vs (vs i) (tks 3 pre) 0 = none ∧ (tks 3 pre).length < 6) ∧ (c = 54 → nc 54 pre < 24) ∧
  (c = 55 → 1 ≤ vs i ∧ vs i ≤ 8) ∧ (c = 57 → 1 ≤ vs i ∧ vs i ≤ 5) ∧ (c = 58 → 1 ≤ vs i ∧ vs i ≤ 99) ∧ (c = 59 → 1 ≤ vs i ∧ vs i ≤ 40) ∧ (1000 ≤ c → c ≤ 1005 ∧ vs i ≤ 99) ∧
  (c = 60 ∨ c = 62 ∨ c = 16 ∨ c = 17 ∨ c = 4 ∨ c = 19 → ∃ j, lkL vs (vs i) (tks 2 pre) 0 = some j ∧ (c = 62 → ∀ k, k < cn C (o + (74 + 2 * ((tks 3 pre).length - 1))) 3 → mI C (o + (75 + 2 * ((tks 3 pre).length - 1))) k ≠ nI j)) ∧
  (c = 61 ∨ c = 63 ∨ c = 2 ∨ c = 18 → ∃ j, lkL vs (vs i) (tks 1 pre) 0 = some j)
theorem OUTg_e {Z vs : Nat → Nat} {r o m t i c k : Nat} {pre : List (Nat × Nat)} {q q' : Nat × Nat × Nat × Nat} {C1 : gMem} (hc : 45 ≤ c) (h54 : c ≠ 54) (h1 : rl c ≠ 1 ∧ rl c ≠ 2 ∧ rl c ≠ 3) (e : some q' = some q) (h : OUTg Z vs r o m t (tks 1 pre) (tks 2 pre) (tks 3 pre) (ceL pre) (nc 54 pre) k q' C1) : OUTgp Z vs r o m t (pre ++ [(c, i)]) k q C1 := by
  cases e
  unfold OUTgp
  rw [pre_1, if_neg (fun z => h1.1 z.2), pre_1, if_neg (fun z => h1.2.1 z.2), pre_1, if_neg (fun z => h1.2.2 z.2), pre_2, if_neg (by omega), pre_3, if_neg h54]
  exact h
theorem OUTg_s {Z vs : Nat → Nat} {r o m t i c k : Nat} {pre : List (Nat × Nat)} {q q' : Nat × Nat × Nat × Nat} {C1 : gMem} (hc : c < 45) (e : some q' = some q) (h : OUTg Z vs r o m t (tks 1 pre) (tks 2 pre) (tks 3 pre) (ceL pre ++ [(c, i)]) (nc 54 pre) k q' C1) : OUTgp Z vs r o m t (pre ++ [(c, i)]) k q C1 := by
  cases e
  have hr : rl c ≠ 1 ∧ rl c ≠ 2 ∧ rl c ≠ 3 := by
    have : ∀ c, c < 45 → rl c ≠ 1 ∧ rl c ≠ 2 ∧ rl c ≠ 3 := by decide +kernel
    exact this c hc
  unfold OUTgp
  rw [pre_1, if_neg (fun z => hr.1 z.2), pre_1, if_neg (fun z => hr.2.1 z.2), pre_1, if_neg (fun z => hr.2.2 z.2), pre_2, if_pos hc, pre_3, if_neg (by omega)]
  exact h
theorem G_tok {Z g ps vs : Nat → Nat} {K r p o : Nat} {M0 : gMem} (W : CWd Z g ps vs K r p o M0) {m t : Nat} {D : gMem} (ht : m + 7 ≤ t) {pre : List (Nat × Nat)} {k i c h h1 : Nat} {q q1 : Nat × Nat × Nat × Nat} {C : gMem} (CC : CI r o M0 C) (R : RAp Z vs r o m t pre k q C D) (hA : aA c q = some q1) (hH : hC c h = some h1) (tk : tkC c = true) (hi : i ≤ K) (hk : k ≤ i) (hv : vs i < 2 ^ 62) (hg : g i = kdC c) (hE : c < 45 → (ceL pre).length < 400) (hv6 : g i = 41 → vs i < 1000000) (G : GE vs o pre c i C) : OUTgp Z vs r o m t (pre ++ [(c, i)]) (i + 1) q1 (stp2 Z r p o (c, i) C) := by
  obtain ⟨G51, G52, G53, G54, G55, G57, G58, G59, Gsz, G2, G1⟩ := G
  by_cases c45 : c < 45
  · have tkv : ∀ c, c < 45 → tkC c = true → c = 2 ∨ c = 4 ∨ c = 16 ∨ c = 17 ∨ c = 18 ∨ c = 19 ∨ c = 41 := by decide +kernel
    have cv := tkv c c45 tk
    have hb : q.2.2.1 ≠ 1 ∧ q.2.2.1 ≠ 2 ∧ q.2.2.2 ≠ 1 := by
      unfold aA at hA
      rw [if_pos c45] at hA
      by_cases z : q.2.2.1 = 1 ∨ q.2.2.1 = 2 ∨ q.2.2.2 = 1
      · rw [if_pos z] at hA; cases hA
      · omega
    rw [aA_c c45 hb] at hA
    by_cases c41 : c = 41
    · subst c41
      exact OUTg_s (by decide) hA (U_41 W ht CC R hi hk hv (hE (by decide)) hg (hv6 hg) hb.2.2)
    · have k40 : ∀ c, c < 45 → c = 2 ∨ c = 4 ∨ c = 16 ∨ c = 17 ∨ c = 18 ∨ c = 19 → kdC c = 40 := by decide +kernel
      have hg4 : g i = 40 := hg.trans (k40 c c45 (by omega))
      by_cases z : c = 16 ∨ c = 17 ∨ c = 4 ∨ c = 19
      · obtain ⟨j, hj, -⟩ := G2 (by omega)
        exact OUTg_s c45 hA (U_nm W ht CC R hi hk hv (hE c45) hg4 (.inl ⟨z, hj⟩) hb.2.2)
      · obtain ⟨j, hj⟩ := G1 (by omega)
        exact OUTg_s c45 hA (U_nm W ht CC R hi hk hv (hE c45) hg4 (.inr ⟨by omega, hj⟩) hb.2.2)
  by_cases c1 : c = 51
  · subst c1
    cases hA
    have key := U_51 W ht CC R hi hk hv hg (G51 rfl).1 (G51 rfl).2
    unfold OUTgp
    rw [pre_1, if_pos (by decide), pre_1, if_neg (by decide), pre_1, if_neg (by decide), pre_2, if_neg (by decide), pre_3, if_neg (by decide)]
    exact key
  by_cases c2 : c = 52
  · subst c2
    have e : aA 52 q = (if q.2.1 = 0 ∨ q.2.1 = 4 then some (q.1, 1, q.2.2) else none) := rfl
    rw [e] at hA
    by_cases z : q.2.1 = 0 ∨ q.2.1 = 4
    · rw [if_pos z] at hA
      cases hA
      have key := U_52 W ht CC R hi hk hv hg (G52 rfl).1 (G52 rfl).2 z
      unfold OUTgp
      rw [pre_1, if_neg (by decide), pre_1, if_pos (by decide), pre_1, if_neg (by decide), pre_2, if_neg (by decide), pre_3, if_neg (by decide)]
      exact key
    · rw [if_neg z] at hA; cases hA
  by_cases c3 : c = 53
  · subst c3
    have e : aA 53 q = (if q.2.2.2 = 0 ∨ q.2.2.2 = 2 ∨ q.2.2.2 = 4 then some (q.1, q.2.1, q.2.2.1, 1) else none) := rfl
    rw [e] at hA
    by_cases z : q.2.2.2 = 0 ∨ q.2.2.2 = 2 ∨ q.2.2.2 = 4
    · rw [if_pos z] at hA
      cases hA
      have key := U_53 W ht CC R hi hk hv hg (G53 rfl).1 (G53 rfl).2 z
      unfold OUTgp
      rw [pre_1, if_neg (by decide), pre_1, if_neg (by decide), pre_1, if_pos (by decide), pre_2, if_neg (by decide), pre_3, if_neg (by decide)]
      exact key
    · rw [if_neg z] at hA; cases hA
  by_cases c4 : c = 54
  · subst c4
    have e : aA 54 q = (if q.2.2.1 = 0 ∨ q.2.2.1 = 4 then some (q.1, q.2.1, 1, q.2.2.2) else none) := rfl
    rw [e] at hA
    by_cases z : q.2.2.1 = 0 ∨ q.2.2.1 = 4
    · rw [if_pos z] at hA
      cases hA
      have key := U_54 W ht CC R hi hk hv (G54 rfl) z
      unfold OUTgp
      rw [pre_1, if_neg (by decide), pre_1, if_neg (by decide), pre_1, if_neg (by decide), pre_2, if_neg (by decide), pre_3, if_pos rfl]
      exact key
    · rw [if_neg z] at hA; cases hA
  by_cases c5 : c = 55
  · subst c5
    have e : aA 55 q = (if q.1 = 1 then some q else none) := rfl
    rw [e] at hA
    by_cases z : q.1 = 1
    · rw [if_pos z] at hA
      exact OUTg_e (by decide) (by decide) (by decide) hA (U_55 W ht CC R hi hk hv hg (hv6 hg) (G55 rfl) z)
    · rw [if_neg z] at hA; cases hA
  by_cases c7 : c = 57
  · subst c7
    have e : aA 57 q = (if q.2.1 + 56 = 57 then some (q.1, q.2.1 + 1, q.2.2) else none) := rfl
    rw [e] at hA
    by_cases z : q.2.1 + 56 = 57
    · have z1 : q.2.1 = 1 := by omega
      rw [if_pos z, z1] at hA
      exact OUTg_e (by decide) (by decide) (by decide) hA (U_57 W ht CC R hi hk hv hg (hv6 hg) (G57 rfl) z1)
    · rw [if_neg z] at hA; cases hA
  by_cases c8 : c = 58
  · subst c8
    have e : aA 58 q = (if q.2.1 + 56 = 58 then some (q.1, q.2.1 + 1, q.2.2) else none) := rfl
    rw [e] at hA
    by_cases z : q.2.1 + 56 = 58
    · have z1 : q.2.1 = 2 := by omega
      rw [if_pos z, z1] at hA
      exact OUTg_e (by decide) (by decide) (by decide) hA (U_58 W ht CC R hi hk hv hg (hv6 hg) (G58 rfl) z1)
    · rw [if_neg z] at hA; cases hA
  by_cases c9 : c = 59
  · subst c9
    have e : aA 59 q = (if q.2.1 + 56 = 59 then some (q.1, q.2.1 + 1, q.2.2) else none) := rfl
    rw [e] at hA
    by_cases z : q.2.1 + 56 = 59
    · have z1 : q.2.1 = 3 := by omega
      rw [if_pos z, z1] at hA
      exact OUTg_e (by decide) (by decide) (by decide) hA (U_59 W ht CC R hi hk hv hg (hv6 hg) (G59 rfl) z1)
    · rw [if_neg z] at hA; cases hA
  by_cases c10 : c = 60
  · subst c10
    have e : aA 60 q = (if q.2.2.1 + 59 = 60 then some (q.1, q.2.1, q.2.2.1 + 1, q.2.2.2) else none) := rfl
    rw [e] at hA
    by_cases z : q.2.2.1 + 59 = 60
    · have z1 : q.2.2.1 = 1 := by omega
      rw [if_pos z, z1] at hA
      obtain ⟨j, hj, -⟩ := G2 (by omega)
      exact OUTg_e (by decide) (by decide) (by decide) hA (U_60 W ht CC R hi hk hv hg hj z1)
    · rw [if_neg z] at hA; cases hA
  by_cases c11 : c = 61
  · subst c11
    have e : aA 61 q = (if q.2.2.1 + 59 = 61 then some (q.1, q.2.1, q.2.2.1 + 1, q.2.2.2) else none) := rfl
    rw [e] at hA
    by_cases z : q.2.2.1 + 59 = 61
    · have z1 : q.2.2.1 = 2 := by omega
      rw [if_pos z, z1] at hA
      obtain ⟨j, hj⟩ := G1 (by omega)
      exact OUTg_e (by decide) (by decide) (by decide) hA (U_61 W ht CC R hi hk hv hg hj z1)
    · rw [if_neg z] at hA; cases hA
  by_cases c12 : c = 62
  · subst c12
    have e : aA 62 q = (if q.2.2.2 = 1 ∨ q.2.2.2 = 2 then some (q.1, q.2.1, q.2.2.1, 2) else none) := rfl
    rw [e] at hA
    by_cases z : q.2.2.2 = 1 ∨ q.2.2.2 = 2
    · rw [if_pos z] at hA
      obtain ⟨j, hj, hm⟩ := G2 (by omega)
      exact OUTg_e (by decide) (by decide) (by decide) hA (U_62 W ht CC R hi hk hv hg hj (hm rfl) z)
    · rw [if_neg z] at hA; cases hA
  by_cases c13 : c = 63
  · subst c13
    have e : aA 63 q = (if q.2.2.2 = 2 then some (q.1, q.2.1, q.2.2.1, 3) else none) := rfl
    rw [e] at hA
    by_cases z : q.2.2.2 = 2
    · rw [if_pos z] at hA
      obtain ⟨j, hj⟩ := G1 (by omega)
      exact OUTg_e (by decide) (by decide) (by decide) hA (U_63 W ht CC R hi hk hv hg hj z)
    · rw [if_neg z] at hA; cases hA
  have ok := aA_ok hA
  unfold okC at ok
  by_cases c100 : 1000 ≤ c
  · have e : aA c q = (if 1 ≤ q.1 ∧ c = 1000 + q.1 then some (q.1 + 1, q.2) else none) := by
      unfold aA
      rw [if_neg (by omega), if_neg (by omega), if_neg (by omega), if_pos c100]
    have er : rl c = 6 := by unfold rl; rw [if_neg (by omega), if_neg (by omega), if_neg (by omega), if_pos c100]
    rw [e] at hA
    by_cases z : 1 ≤ q.1 ∧ c = 1000 + q.1
    · rw [if_pos z] at hA
      refine OUTg_e (by omega) (by omega) (by rw [er]; decide) hA ?_
      have kd : kdC c = 41 := by unfold kdC; rw [if_neg (by omega), if_pos (.inr (.inr c100))]
      have hg4 : g i = 41 := hg.trans kd
      obtain ⟨g5, g6⟩ := Gsz c100
      rw [z.2]
      exact U_sz W ht CC R hi hk hv hg4 (hv6 hg4) (by omega) g6 z.1
    · rw [if_neg z] at hA; cases hA
  · have c6 : c = 64 ∨ c = 65 ∨ c = 66 := by omega
    rcases c6 with h | h | h <;> subst h <;> exact absurd tk (by decide)
/-- the whole pass, where each event is in order -/
theorem G_run {Z g ps vs : Nat → Nat} {K r p o : Nat} {M0 : gMem} (W : CWd Z g ps vs K r p o M0) {m t e hh : Nat} (ht : m + 7 ≤ t) {es : List (Nat × Nat)} {qE : Nat × Nat × Nat × Nat} {Inv : List (Nat × Nat) → Nat × Nat × Nat × Nat → Nat → gMem → Prop} (hInv : ∀ pre suf c i q q1 h h1 k k' C D D', es = pre ++ (c, i) :: suf → CI r o M0 C → RAp Z vs r o m t pre k q C D → RAp Z vs r o m t (pre ++ [(c, i)]) k' q1 (stp2 Z r p o (c, i) C) D' → aA c q = some q1 → hC c h = some h1 → Inv pre q h C → Inv (pre ++ [(c, i)]) q1 h1 (stp2 Z r p o (c, i) C)) (he : e ≤ K) (hvs : ∀ i, vs i < 2 ^ 62) (hv6 : ∀ i, i ≤ K → g i = 41 → vs i < 1000000) (hcc : cc es ≤ 400) (hG : ∀ pre suf c i q h k C D, es = pre ++ (c, i) :: suf → RAp Z vs r o m t pre k q C D → Inv pre q h C → GE vs o pre c i C) : ∀ suf k pre q h C D, es = pre ++ suf → ES g 0 pre k → ES g k suf e → aE suf q = some qE → hE suf h = some hh → RAp Z vs r o m t pre k q C D → CI r o M0 C → Inv pre q h C →
    ∃ D', RAp Z vs r o m t (pre ++ suf) e qE (rnE Z r p o suf C) D' ∧ Inv (pre ++ suf) qE hh (rnE Z r p o suf C) ∧ CI r o M0 (rnE Z r p o suf C)
  | [], k, pre, q, h, C, D, h1, h2, h3, h4, h5, R, CC, VV => by
    have hke : k ≤ e := h3
    cases h4
    cases h5
    rw [List.append_nil]
    exact ⟨_, RA_9 (v := 0) ht R hke, VV, CC⟩
  | (c, i) :: suf, k, pre, q, h, C, D, h1, h2, h3, h4, h5, R, CC, VV => by
    have ho := (W_ho W).2
    rw [ES] at h3
    rw [aE] at h4
    rw [hE] at h5
    have hassoc : es = pre ++ [(c, i)] ++ suf := by rw [h1, List.append_assoc]; rfl
    have CC1 : CI r o M0 (stp2 Z r p o (c, i) C) := CI_s1 W (CI_at ho CC)
    have hEl : c < 45 → (ceL pre).length < 400 := fun z => by
      have := hcc
      rw [h1, cc_app] at this
      have e2 : cc ((c, i) :: suf) = 1 + cc suf := by rw [cc, if_pos z]
      rw [e2] at this
      rw [ceL_cc]; omega
    have GG := hG pre suf c i q h k C D h1 R VV
    cases hA : aA c q with
    | none => simp only [hA] at h4; cases h4
    | some q1 =>
    simp only [hA] at h4
    cases hH : hC c h with
    | none => simp only [hH] at h5; cases h5
    | some hx =>
    simp only [hH] at h5
    by_cases tk : tkC c = true
    · rw [if_pos (show tkC (c, i).1 = true from tk)] at h3
      obtain ⟨k1, k2, k3⟩ := h3
      have k1 : k ≤ i := k1
      have k2 : g i = kdC c := k2
      have k3 : ES g (i + 1) suf e := k3
      have ie := ES_le suf _ e k3
      have ESc : ES g k [(c, i)] (i + 1) := by rw [ES, if_pos (show tkC (c, i).1 = true from tk)]; exact ⟨k1, k2, Nat.le_refl _⟩
      obtain ⟨D2, R2⟩ := G_tok W ht CC R hA hH tk (by omega) k1 (hvs i) k2 hEl (hv6 i (by omega)) GG
      have ih := G_run W ht hInv he hvs hv6 hcc hG suf (i + 1) (pre ++ [(c, i)]) q1 hx _ D2 hassoc (ES_app pre _ _ _ _ h2 ESc) k3 h4 h5 R2 CC1 (hInv pre suf c i q q1 h hx _ _ C _ _ h1 CC R R2 hA hH VV)
      rw [List.append_assoc] at ih
      exact ih
    · rw [if_neg (show ¬ tkC (c, i).1 = true from tk)] at h3
      have ESc : ES g k [(c, i)] k := by rw [ES, if_neg (show ¬ tkC (c, i).1 = true from tk)]; exact Nat.le_refl k
      have R1 := P2_op (i := i) W CC R hA hH tk hEl
      have ih := G_run W ht hInv he hvs hv6 hcc hG suf k (pre ++ [(c, i)]) q1 hx _ D hassoc (ES_app pre _ _ _ _ h2 ESc) h3 h4 h5 R1 CC1 (hInv pre suf c i q q1 h hx _ _ C _ _ h1 CC R R1 hA hH VV)
      rw [List.append_assoc] at ih
      exact ih
