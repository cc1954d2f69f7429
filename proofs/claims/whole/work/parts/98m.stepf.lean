/-! ## Pure: one event more: a new fisher, a new pact, a go -/
theorem S_52 {Z g ps vs : Nat → Nat} {K r p o : Nat} {M0 : gMem} (W : CWd Z g ps vs K r p o M0) {ro : Nat → Nat} {m t : Nat} {D0 D : gMem} (W2 : P2W g vs ro K m t D0) (DD : M2I m t D0 D) {L1 L2 L3 : List Nat} {E : List (Nat × Nat)} {nO k : Nat} {q : Nat × Nat × Nat × Nat} {C : gMem} (CC : CI r o M0 C) (R : RA Z vs r o m t L1 L2 L3 E nO k q C D) {i : Nat} (hi : i ≤ K) (hk : k ≤ i) (hv : vs i < 2 ^ 62) (hr : ro i = 2) (h1 : tdS ro vs 2 (vs i) i 0 0 = lkL vs (vs i) L2 0) (hb : q.2.1 = 0 ∨ q.2.1 = 4) : OUT Z vs ps r o m t i L1 (L2 ++ [i]) L3 E nO (i + 1) (q.1, 1, q.2.2) D0 (stp2 Z r p o (52, i) C) D := by
  have ht := W2.1.1.2.2; obtain ⟨hp, ho⟩ := W_ho W; have CX := CI_at (k := i) ho CC; have x7 : mI (at' r i C) r 7 = 0 := (wI_o (.inr (by decide))).trans R.1
  obtain ⟨h7, RG1, ⟨⟨a1, a2, a3, a4, a5⟩, b, c⟩, RO1, RP1, RV1⟩ := R
  have hg := g_40 W2 hi (.inr (.inl hr))
  have N := NL_fr (C' := at' r i C) a1 (wI_o (.inl (by omega))) (fun _ => rfl)
  have es : stp2 Z r p o (52, i) C = nfM o (nwM r p (r + 3) i (at' r i C)) := rfl
  have E1 := E_2 W2 DD hi hr a3 a1.2.1
  have kp : ∀ Y, kpE r Y (nfM o Y) := fun Y => kp_t (kp_w (.inl (by omega))) (kp_cp (by omega))
  rw [h1] at E1
  rw [es]
  cases hl : lkL vs (vs i) L2 0 with
  | some j =>
    rw [hl, if_neg (by intro z; cases z)] at E1
    exact .inl ⟨2, D, by decide, by decide, E1, DD, ER_k (by decide) (by decide) (nw_d W CX hi N hg hv hl x7) (kp _)⟩
  | none =>
    rw [hl, if_pos rfl] at E1
    by_cases c8 : L2.length = 8
    · rw [if_pos c8] at E1
      exact .inl ⟨4, D, by decide, by decide, E1, DD, ER_k (by decide) (by decide) (nw_c W CX hi N hg hv hl (by unfold cap; rw [if_neg (by omega)]; omega) x7) (kp _)⟩
    · rw [if_neg c8] at E1
      have n8 : L2.length < 8 := by have := a1.2.1; omega
      have hlen : (L2 ++ [i]).length = L2.length + 1 := by rw [List.length_append]; rfl
      refine .inr ⟨_, E1, M2_w ht DD (.inr (.inr (.inr (by omega)))), ?_⟩
      rw [nw_f W CX hi N hg hv hl (by unfold cap; rw [if_neg (by omega)]; omega)]
      obtain ⟨-, -, F1, F2, -⟩ := W_fr W CX
      generalize hX : at' r i C = X at *; have ex : ∀ a k, (a ≠ r ∨ k ≠ 6) → mI X a k = mI C a k := (fun a k h => by rw [← hX]; exact wI_o h); have exJ : mJ X = mJ C := (by rw [← hX]; rfl); have exR : mR X = mR C := (by rw [← hX]; rfl)
      have e2 : cn (wI (wJ X (r + 3 + 1) L2.length (lN (vs i))) (r + 3) 1 (nI (L2.length + 1))) o 3 = L2.length := cn_e (by rw [wI_o (.inl (by omega))]; exact (ex o 3 (.inl (by omega))).trans a2) (by omega)
      unfold nfM
      rw [e2, show min L2.length 7 = L2.length by omega, show min (L2.length + 1) 8 = L2.length + 1 by omega]
      generalize hY : wI (wI (wJ X (r + 3 + 1) L2.length (lN (vs i))) (r + 3) 1 (nI (L2.length + 1))) o 3 (nI (L2.length + 1)) = Y
      have ey : ∀ a k, (a ≠ r + 3 ∨ k ≠ 1) → (a ≠ o ∨ k ≠ 3) → mI Y a k = mI X a k := fun a k h1 h2 => by
        rw [← hY, wI_o h2, wI_o h1]; rfl
      have ag : ∀ a k, (a ≠ r ∨ k ≠ 6) → (a ≠ r + 3 ∨ k ≠ 1) → (a ≠ o ∨ k ≠ 3) → a ≠ o + (34 + 2 * L2.length) → a ≠ o + (35 + 2 * L2.length) → mI (cpS sF (o + (34 + 2 * L2.length)) (o + 14) Y) a k = mI C a k := fun a k h1 h2 h3 h4 h5 => by
        rw [cp_r, if_neg (by omega), ey a k h2 h3, ex a k h1]
      have ad : ∀ a k, (a ≠ t ∨ k ≠ 4) → mI (wI D t 4 (nI (L2.length + 1))) a k = mI D a k := fun a k h => wI_o h
      have agJ : ∀ a j, a ≠ r + 4 → mJ (cpS sF (o + (34 + 2 * L2.length)) (o + 14) Y) a j = mJ C a j := fun a j h => by
        show mJ Y a j = _
        rw [← hY, ← exJ]
        show mJ (wJ X (r + 3 + 1) L2.length (lN (vs i))) a j = _
        rw [wJ_r, if_neg (by omega)]
      refine ⟨(ag r 7 (.inr (by decide)) (.inl (by omega)) (.inl (by omega)) (by omega) (by omega)).trans h7, ?_, ?_, ?_, ?_, ?_⟩
      · exact RG_fr RG1 (fun a k h => ag a k (by omega) (by omega) (by omega) (by omega) (by omega)) (fun j => agJ _ j (by omega)) (fun a k h => ad a k (by omega))
      · refine ⟨⟨NL_s a1 n8 hv ?_ (fun j => ?_), ?_, ?_, (by show 1 ≤ 4; decide), fun _ => by omega⟩, fun g' hg' => ?_, fun g' hg' => ?_⟩
        · rw [cp_r, if_neg (by omega), ← hY, wI_o (.inl (by omega)), wI_e]
        · show mJ Y (r + 3 + 1) j = _
          rw [← hY, ← exJ]
          show mJ (wJ X (r + 3 + 1) L2.length (lN (vs i))) (r + 3 + 1) j = _
          rw [wJ_r]
          by_cases z : j = L2.length
          · rw [if_pos z, if_pos ⟨rfl, z⟩]
          · rw [if_neg z, if_neg (fun y => z y.2)]
        · rw [cp_r, if_neg (by omega), ← hY, wI_e, hlen]
        · rw [wI_e, hlen]
        · rw [ad _ _ (by omega), ad _ _ (by omega), ad _ _ (by omega)]
          by_cases z : g' < L2.length
          · obtain ⟨b1, b2, b3, b4, b5, b6, ⟨n, n1, n2, n3⟩, b8⟩ := b g' z
            have ac : ∀ k, mI (cpS sF (o + (34 + 2 * L2.length)) (o + 14) Y) (o + (34 + 2 * g')) k = mI C (o + (34 + 2 * g')) k := fun k => ag _ _ (by omega) (by omega) (by omega) (by omega) (by omega)
            have ac2 : ∀ k, mI (cpS sF (o + (34 + 2 * L2.length)) (o + 14) Y) (o + (35 + 2 * g')) k = mI C (o + (35 + 2 * g')) k := fun k => ag _ _ (by omega) (by omega) (by omega) (by omega) (by omega)
            refine ⟨by rw [ac]; exact b1, by rw [ac]; exact b2, by rw [ac]; exact b3, by rw [ac]; exact b4, fun k k1 k2 => by rw [ac]; exact b5 k k1 k2, fun k k1 => by rw [ac2]; exact b6 k k1, ⟨n, n1, .inl (by omega), n3⟩, b8⟩
          · have eg : g' = L2.length := by omega
            subst eg
            obtain ⟨c1, c2, c3⟩ := c L2.length (Nat.le_refl _)
            have t0 : ∀ k, k < 10 → mI (cpS sF (o + (34 + 2 * L2.length)) (o + 14) Y) (o + (34 + 2 * L2.length)) k = if k = 6 then -1 else 0 := fun k hk => by
              rw [cp_r, if_pos ⟨.inl rfl, by rw [Nat.sub_self]; unfold sF; rw [if_pos rfl]; exact decide_eq_true hk⟩, Nat.sub_self, ey _ _ (by omega) (by omega)]
              exact F1 k hk
            have t1 : ∀ k, k < 8 → mI (cpS sF (o + (34 + 2 * L2.length)) (o + 14) Y) (o + (35 + 2 * L2.length)) k = 0 := fun k hk => by
              rw [cp_r, if_pos ⟨.inr (by omega), by rw [show o + (35 + 2 * L2.length) - (o + (34 + 2 * L2.length)) = 1 by omega]; unfold sF; rw [if_neg (by decide)]; exact decide_eq_true hk⟩, show o + (35 + 2 * L2.length) - (o + (34 + 2 * L2.length)) = 1 by omega, ey _ _ (by omega) (by omega)]
              exact F2 k hk
            rw [c1, c2, c3]
            exact ⟨t0 0 (by omega), t0 1 (by omega), t0 2 (by omega), t0 3 (by omega), fun k k1 k2 => t0 k k2, t1, ⟨0, by omega, .inr ⟨by omega, rfl⟩, rfl⟩, ⟨0, by omega, rfl⟩, 0, by omega, rfl⟩
        · rw [ad _ _ (by omega), ad _ _ (by omega), ad _ _ (by omega)]
          exact c g' (by omega)
      · exact RO_fr RO1 (by omega) (Nat.le_refl _) (fun a k h => ag a k (by omega) (by omega) (by omega) (by omega) (by omega)) (fun a k h => ad a k (by omega))
      · exact RP_fr RP1 (by omega) (Nat.le_refl _) (fun a k h => ag a k (by omega) (by omega) (by omega) (by omega) (by omega)) (fun j => agJ _ j (by omega)) (fun a k h => ad a k (by omega))
      · refine RV_fr RV1 (by omega) (Nat.le_refl _) (by omega) (fun a k h => ag a k (by omega) (by omega) (by omega) (by omega) (by omega)) (fun j => ?_) (fun j hj => ad _ _ (by omega))
        show mR Y (o + 6) j = _
        rw [← hY, ← exR]
        rfl
theorem S_53 {Z g ps vs : Nat → Nat} {K r p o : Nat} {M0 : gMem} (W : CWd Z g ps vs K r p o M0) {ro : Nat → Nat} {m t : Nat} {D0 D : gMem} (W2 : P2W g vs ro K m t D0) (DD : M2I m t D0 D) {L1 L2 L3 : List Nat} {E : List (Nat × Nat)} {nO k : Nat} {q : Nat × Nat × Nat × Nat} {C : gMem} (CC : CI r o M0 C) (R : RA Z vs r o m t L1 L2 L3 E nO k q C D) {i : Nat} (hi : i ≤ K) (hk : k ≤ i) (hv : vs i < 2 ^ 62) (hr : ro i = 3) (h1 : tdS ro vs 3 (vs i) i 0 0 = lkL vs (vs i) L3 0) (hb : q.2.2.2 = 0 ∨ q.2.2.2 = 2 ∨ q.2.2.2 = 4) : OUT Z vs ps r o m t i L1 L2 (L3 ++ [i]) E nO (i + 1) (q.1, q.2.1, q.2.2.1, 1) D0 (stp2 Z r p o (53, i) C) D := by
  have ht := W2.1.1.2.2; obtain ⟨hp, ho⟩ := W_ho W; have CX := CI_at (k := i) ho CC; have x7 : mI (at' r i C) r 7 = 0 := (wI_o (.inr (by decide))).trans R.1
  obtain ⟨h7, RG1, RF1, RO1, ⟨⟨a1, a2, a3, a4, a5⟩, b, c⟩, RV1⟩ := R
  have hg := g_40 W2 hi (.inr (.inr (.inl hr)))
  have N := NL_fr (C' := at' r i C) a1 (wI_o (.inl (by omega))) (fun _ => rfl)
  have es : stp2 Z r p o (53, i) C = npM o (nwM r p (r + 5) i (at' r i C)) := rfl
  have E1 := E_3 W2 DD hi hr a3 a4
  have kp : ∀ Y, kpE r Y (npM o Y) := fun Y => kp_t (kp_w (.inl (by omega))) (kp_cp (by omega))
  have hcap : cap r (r + 5) = 6 := if_pos rfl
  rw [h1] at E1
  rw [es]
  cases hl : lkL vs (vs i) L3 0 with
  | some j =>
    rw [hl, if_neg (by intro z; cases z)] at E1
    exact .inl ⟨2, D, by decide, by decide, E1, DD, ER_k (by decide) (by decide) (nw_d W CX hi N hg hv hl x7) (kp _)⟩
  | none =>
    rw [hl, if_pos rfl] at E1
    by_cases c8 : L3.length = 6
    · rw [if_pos c8] at E1
      exact .inl ⟨4, D, by decide, by decide, E1, DD, ER_k (by decide) (by decide) (nw_c W CX hi N hg hv hl (by rw [hcap]; omega) x7) (kp _)⟩
    · rw [if_neg c8] at E1
      have n8 : L3.length < 6 := by omega
      have hlen : (L3 ++ [i]).length = L3.length + 1 := by rw [List.length_append]; rfl
      refine .inr ⟨_, E1, M2_w ht (M2_w ht DD (.inr (.inr (.inl (by omega))))) (.inr (.inr (.inr (by omega)))), ?_⟩
      rw [nw_f W CX hi N hg hv hl (by rw [hcap]; omega)]
      obtain ⟨-, -, -, -, F1, F2⟩ := W_fr W CX
      generalize hX : at' r i C = X at *; have ex : ∀ a k, (a ≠ r ∨ k ≠ 6) → mI X a k = mI C a k := (fun a k h => by rw [← hX]; exact wI_o h); have exJ : mJ X = mJ C := (by rw [← hX]; rfl); have exR : mR X = mR C := (by rw [← hX]; rfl)
      have e2 : cn (wI (wJ X (r + 5 + 1) L3.length (lN (vs i))) (r + 5) 1 (nI (L3.length + 1))) o 5 = L3.length := cn_e (by rw [wI_o (.inl (by omega))]; exact (ex o 5 (.inl (by omega))).trans a2) (by omega)
      unfold npM
      rw [e2, show min L3.length 5 = L3.length by omega, show min (L3.length + 1) 6 = L3.length + 1 by omega]
      generalize hY : wI (wI (wJ X (r + 5 + 1) L3.length (lN (vs i))) (r + 5) 1 (nI (L3.length + 1))) o 5 (nI (L3.length + 1)) = Y
      have ey : ∀ a k, (a ≠ r + 5 ∨ k ≠ 1) → (a ≠ o ∨ k ≠ 5) → mI Y a k = mI X a k := fun a k h1 h2 => by
        rw [← hY, wI_o h2, wI_o h1]; rfl
      have ag : ∀ a k, (a ≠ r ∨ k ≠ 6) → (a ≠ r + 5 ∨ k ≠ 1) → (a ≠ o ∨ k ≠ 5) → a ≠ o + (74 + 2 * L3.length) → a ≠ o + (75 + 2 * L3.length) → mI (cpS sP (o + (74 + 2 * L3.length)) (o + 16) Y) a k = mI C a k := fun a k h1 h2 h3 h4 h5 => by
        rw [cp_r, if_neg (by omega), ey a k h2 h3, ex a k h1]
      have ad : ∀ a k, (a ≠ t ∨ k ≠ 11) → (a ≠ t + 8 ∨ k ≠ L3.length) → mI (wI (wI D (t + 8) L3.length (-1)) t 11 (nI (L3.length + 1))) a k = mI D a k := fun a k h h2 => by
        rw [wI_o h, wI_o h2]
      have agJ : ∀ a j, a ≠ r + 6 → mJ (cpS sP (o + (74 + 2 * L3.length)) (o + 16) Y) a j = mJ C a j := fun a j h => by
        show mJ Y a j = _
        rw [← hY, ← exJ]
        show mJ (wJ X (r + 5 + 1) L3.length (lN (vs i))) a j = _
        rw [wJ_r, if_neg (by omega)]
      refine ⟨(ag r 7 (.inr (by decide)) (.inl (by omega)) (.inl (by omega)) (by omega) (by omega)).trans h7, ?_, ?_, ?_, ?_, ?_⟩
      · exact RG_fr RG1 (fun a k h => ag a k (by omega) (by omega) (by omega) (by omega) (by omega)) (fun j => agJ _ j (by omega)) (fun a k h => ad a k (by omega) (by omega))
      · exact RF_fr RF1 (fun a k h => ag a k (by omega) (by omega) (by omega) (by omega) (by omega)) (fun j => agJ _ j (by omega)) (fun a k h => ad a k (by omega) (by omega))
      · exact RO_fr RO1 (Nat.le_refl _) (Nat.le_refl _) (fun a k h => ag a k (by omega) (by omega) (by omega) (by omega) (by omega)) (fun a k h => ad a k (by omega) (by omega))
      · refine ⟨⟨NL_s a1 (by omega) hv ?_ (fun j => ?_), ?_, ?_, by omega, fun _ => by omega⟩, fun g' hg' => ?_, fun g' hg' => ?_⟩
        · rw [cp_r, if_neg (by omega), ← hY, wI_o (.inl (by omega)), wI_e]
        · show mJ Y (r + 5 + 1) j = _
          rw [← hY, ← exJ]
          show mJ (wJ X (r + 5 + 1) L3.length (lN (vs i))) (r + 5 + 1) j = _
          rw [wJ_r]
          by_cases z : j = L3.length
          · rw [if_pos z, if_pos ⟨rfl, z⟩]
          · rw [if_neg z, if_neg (fun y => z y.2)]
        · rw [cp_r, if_neg (by omega), ← hY, wI_e, hlen]
        · rw [wI_e, hlen]
        · have a9 : ∀ k, mI (wI (wI D (t + 8) L3.length (-1)) t 11 (nI (L3.length + 1))) (t + 9) k = mI D (t + 9) k := fun k => ad _ _ (by omega) (by omega)
          have a10 : ∀ k, mI (wI (wI D (t + 8) L3.length (-1)) t 11 (nI (L3.length + 1))) (t + 10) k = mI D (t + 10) k := fun k => ad _ _ (by omega) (by omega)
          simp only [a9, a10]
          by_cases z : g' < L3.length
          · obtain ⟨b1, b2, b3, ⟨n, n1, n2, n3⟩, b5⟩ := b g' z
            have ac : ∀ k, mI (cpS sP (o + (74 + 2 * L3.length)) (o + 16) Y) (o + (74 + 2 * g')) k = mI C (o + (74 + 2 * g')) k := fun k => ag _ _ (by omega) (by omega) (by omega) (by omega) (by omega)
            have ac2 : ∀ k, mI (cpS sP (o + (74 + 2 * L3.length)) (o + 16) Y) (o + (75 + 2 * g')) k = mI C (o + (75 + 2 * g')) k := fun k => ag _ _ (by omega) (by omega) (by omega) (by omega) (by omega)
            rw [ad (t + 8) g' (by omega) (by omega)]
            refine ⟨by rw [ac]; exact b1, ?_, fun k k1 k2 => by rw [ac]; exact b3 k k1 k2, ⟨n, n1, .inl (by omega), by rw [ac]; exact n3.1, n3.2⟩, fun k k1 => by rw [ac2]; exact b5 k k1⟩
            rcases b2 with h | ⟨h, -⟩
            · exact .inl h
            · exact .inr ⟨h, .inl (by omega)⟩
          · have eg : g' = L3.length := by omega
            subst eg
            obtain ⟨c1, c2⟩ := c L3.length (Nat.le_refl _)
            have t0 : ∀ k, k < 4 ∨ (5 ≤ k ∧ k < 8) → mI (cpS sP (o + (74 + 2 * L3.length)) (o + 16) Y) (o + (74 + 2 * L3.length)) k = if k = 0 then -1 else 0 := fun k hk => by
              rw [cp_r, if_pos ⟨.inl rfl, by rw [Nat.sub_self]; unfold sP; rw [if_pos rfl]; exact decide_eq_true hk⟩, Nat.sub_self, ey _ _ (by omega) (by omega)]
              exact F1 k (by omega)
            have t1 : ∀ k, k < 8 → mI (cpS sP (o + (74 + 2 * L3.length)) (o + 16) Y) (o + (75 + 2 * L3.length)) k = 0 := fun k hk => by
              rw [cp_r, if_pos ⟨.inr (by omega), by rw [show o + (75 + 2 * L3.length) - (o + (74 + 2 * L3.length)) = 1 by omega]; unfold sP; rw [if_neg (by decide)]; exact decide_eq_true hk⟩, show o + (75 + 2 * L3.length) - (o + (74 + 2 * L3.length)) = 1 by omega, ey _ _ (by omega) (by omega)]
              exact F2 k hk
            have e8 : mI (wI (wI D (t + 8) L3.length (-1)) t 11 (nI (L3.length + 1))) (t + 8) L3.length = -1 := by
              rw [wI_o (.inl (by omega)), wI_e]
            rw [e8, c1]
            refine ⟨t0 0 (by omega), .inl rfl, fun k k1 k2 => (t0 k (by omega)).trans (if_neg (by omega)), ⟨0, by omega, .inr ⟨by omega, trivial⟩, t0 3 (by omega), rfl, fun k hk => absurd hk (Nat.not_lt_zero _), fun j k _ hk => absurd hk (Nat.not_lt_zero _)⟩, fun k hk => by rw [t1 k hk, c2 k hk]⟩
        · rw [ad _ _ (by omega) (by omega)]
          exact ⟨(c g' (by omega)).1, fun k hk => by rw [ad _ _ (by omega) (by omega)]; exact (c g' (by omega)).2 k hk⟩
      · refine RV_fr RV1 (Nat.le_refl _) (Nat.le_refl _) (by omega) (fun a k h => ag a k (by omega) (by omega) (by omega) (by omega) (by omega)) (fun j => ?_) (fun j hj => ad _ _ (by omega) (by omega))
        show mR Y (o + 6) j = _
        rw [← hY, ← exR]
        rfl
